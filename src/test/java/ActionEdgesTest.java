/** Boundary cases of promises 37 to 42: programs made and dropped, facts assumed, what goes back, OUT. */
public final class ActionEdgesTest {
    private static final Asked ASKED = new Asked("ActionEdgesTest");
    private static final Edges EDGES = new Edges(ASKED);
    private static final String EIGHT = "tests b;acts p;let a=p;let c=1;let d=1;let e=1;let f=1;let g=1;let h=1;let i=p p p;";
    private static final String SIXTY = "tests b c d;acts p;zero b p 1 p d;let x=(!c p+p p p(b+!d)p)*;let y=d;";
    private static final String SIXTY_ONE = "tests b c d;acts p;zero c p (c+!d b) p (b+!d);let x=(p p p p+!d p !c)*;let y=d;";

    public static void main(String[] args) throws IllegalAccessException {
        EDGES.run(ActionEdgesTest.class);
    }

    private static void undone(TestJudge j, int left, int programs, int assumed) {
        ASKED.given("undo()", j, j.undo(), left);
        ASKED.given("PROGRAMS then", j, j.many(2), programs);
        ASKED.given("ASSUMED then", j, j.many(5), assumed);
    }

    // ---- promise 37: make

    static void promise37_makeEachHow() {
        TestJudge j = Asked.told("tests b c;acts p q;let x=p;let y=q q;");
        String[] same = {"p+q q", "p q q", "p*", "c p+!c q q", "(c p)*!c"};
        int[] weights = {3, 3, 1, 3, 1};
        for (int how = 0; how < 5; how++) {
            ASKED.given("make(" + how + ", 0, 1, 1)", j, j.make(how, 0, 1, 1), 2 + how);
            ASKED.given("its weight", j, j.program(2 + how, 0), weights[how]);
            ASKED.given("it is not PLAIN", j, j.program(2 + how, 1), 0);
            TestJudge k = Asked.told("tests b c;acts p q;let x=" + same[how] + ";");
            ASKED.due("as told", Asked.printed(j, 2 + how).equals(Asked.printed(k, 0)) ? 1 : 0, 1);
            ASKED.given("PROGRAMS", j, j.many(2), 3 + how);
        }
    }

    static void promise37_makeHow0To4AndNoOther() {
        for (int how : new int[] {-1, 5, Integer.MIN_VALUE, Integer.MAX_VALUE}) {
            TestJudge j = Asked.told(EIGHT);
            ASKED.denied("make(" + how + ", 0, 1, 0)", j, j.make(how, 0, 1, 0), 1);
            ASKED.denied("make(" + how + ", 8, 8, 9)", j, j.make(how, 8, 8, 9), 1);
        }
    }

    static void promise37_makeAsksBothProgramsWhateverHowIs() {
        TestJudge j = Asked.told("tests b;acts p;let x=p;let y=1;");
        for (int how = 0; how < 5; how++) {
            ASKED.denied("no such first", j, j.make(how, 2, 0, 0), 2);
            ASKED.denied("no such other", j, j.make(how, 0, 2, 0), 2);
            ASKED.denied("first below 0", j, j.make(how, -1, 0, 0), 2);
            ASKED.denied("other below 0", j, j.make(how, 0, -1, 0), 2);
        }
        ASKED.given("the last of both", j, j.make(4, 1, 1, 0), 2);
    }

    static void promise37_makeAsksForTheTestWith3And4Alone() {
        TestJudge j = Asked.told("tests b c;acts p;let x=p;");
        for (int how = 3; how < 5; how++) {
            for (int test : new int[] {2, -1, Integer.MAX_VALUE, Integer.MIN_VALUE}) {
                ASKED.denied("make(" + how + ", 0, 0, " + test + ")", j, j.make(how, 0, 0, test), 2);
            }
            ASKED.given("make(" + how + ", 0, 0, 1)", j, j.make(how, 0, 0, 1), how - 2);
        }
        for (int how = 0; how < 3; how++) {
            ASKED.given("make(" + how + ", 0, 0, 2)", j, j.make(how, 0, 0, how - 1), 3 + how);
        }
        TestJudge k = Asked.told("acts p;let x=p;");
        ASKED.denied("no TEST was told", k, k.make(3, 0, 0, 0), 2);
        ASKED.given("none is asked for", k, k.make(2, 0, 0, 0), 1);
        TestJudge m = Asked.told("tests b c d;acts p;let x=p;");
        ASKED.given("the last of three", m, m.make(4, 0, 0, 2), 1);
        ASKED.given("its atoms", m, m.atoms(1), 15);
        ASKED.denied("the fourth", m, m.make(4, 0, 0, 3), 2);
    }

    static void promise37_makeTheEighthAndNotTheNinth() {
        TestJudge j = Asked.told(EIGHT.substring(0, EIGHT.length() - 12));
        ASKED.given("PROGRAMS", j, j.many(2), 7);
        ASKED.given("the eighth", j, j.make(0, 1, 1, 0), 7);
        for (int how = 0; how < 5; how++) {
            ASKED.denied("the ninth", j, j.make(how, 1, 1, 0), 3);
        }
        ASKED.denied("no such TEST comes ahead of it", j, j.make(3, 1, 1, 1), 2);
        ASKED.denied("no such PROGRAM comes ahead of it", j, j.make(0, 1, 8, 0), 2);
        j.drop(7);
        ASKED.given("the eighth again", j, j.make(0, 1, 1, 0), 7);
    }

    static void promise37_makeOfWeight5AndNot6() {
        TestJudge j = Asked.told("tests b;acts p;let x=p p p;let y=p p;let z=p p p p p;let w=1;");
        int[] both = {0, 1, 3};
        for (int how : both) {
            ASKED.given("make(" + how + ", 0, 1, 0)", j, j.make(how, 0, 1, 0), 4);
            ASKED.given("its weight", j, j.program(4, 0), 5);
            ASKED.denied("make(" + how + ", 0, 0, 0)", j, j.make(how, 0, 0, 0), 3);
            ASKED.denied("make(" + how + ", 2, 1, 0)", j, j.make(how, 2, 1, 0), 3);
            ASKED.given("make(" + how + ", 2, 3, 0)", j, j.make(how, 2, 3, 0), 5);
            ASKED.given("make(" + how + ", 3, 2, 0)", j, j.make(how, 3, 2, 0), 6);
            j.drop(4);
            j.drop(4);
            j.drop(4);
        }
    }

    static void promise37_makeOfTheFirstOnesWeightAlone() {
        TestJudge j = Asked.told("tests b;acts p;let x=p p p p p;let y=p p p;");
        ASKED.given("the first one's *", j, j.make(2, 0, 1, 0), 2);
        ASKED.given("while", j, j.make(4, 0, 0, 0), 3);
        ASKED.given("weight", j, j.program(2, 0), 5);
        ASKED.given("weight", j, j.program(3, 0), 5);
    }

    private static void chain(TestJudge j, int how, int from) {
        for (int i = 0; i < 6; i++) {
            ASKED.given("layer " + (i + 1), j, j.make(how, i == 0 ? from : j.many(2) - 1, from, 0), j.many(2) - 1);
        }
    }

    static void promise37_makeOf6LayersAndNot7() {
        for (int how = 0; how < 5; how++) {
            TestJudge j = Asked.told("tests b;acts p;let x=b;");
            chain(j, how, 0);
            ASKED.given("PROGRAMS", j, j.many(2), 7);
            ASKED.denied("layer 7", j, j.make(how, 6, 6, 0), 3);
            ASKED.denied("layer 7 with another one", j, j.make(how, 6, 0, 0), 3);
            ASKED.given("layer 6 once more", j, j.make(how, 5, 5, 0), 7);
        }
    }

    static void promise37_makeOneMoreThanTheMostOfBoth() {
        for (int how : new int[] {0, 1, 3}) {
            TestJudge j = Asked.told("tests b;acts p;let x=b;");
            chain(j, 2, 0);
            ASKED.denied("the other has 6", j, j.make(how, 0, 6, 0), 3);
            ASKED.denied("the first has 6", j, j.make(how, 6, 0, 0), 3);
            ASKED.given("the other has 5", j, j.make(how, 0, 5, 0), 7);
            j.drop(0);
            ASKED.denied("it has 6 itself", j, j.make(2, 6, 6, 0), 3);
        }
    }

    static void promise37_makeOneMoreThanTheFirstWith2And4() {
        for (int how : new int[] {2, 4}) {
            TestJudge j = Asked.told("tests b;acts p;let x=b;");
            chain(j, 0, 0);
            ASKED.denied("the first has 6", j, j.make(how, 6, 0, 0), 3);
            ASKED.given("the other has 6", j, j.make(how, 0, 6, 0), 7);
            j.drop(1);
            ASKED.given("it has 1 itself", j, j.make(2, 6, 6, 0), 7);
        }
    }

    static void promise37_makeOfToldOnesHas1Layer() {
        // A PROGRAM that the TEXT told has 0, though others stand in it.
        TestJudge j = Asked.told("let a=1;let b=a a;let c=!b;let d=c+b;");
        j.drop(0);
        j.drop(0);
        chain(j, 2, 1);
        ASKED.denied("layer 7", j, j.make(2, 7, 7, 0), 3);
    }

    static void promise37_makeOfWhatIsDroppedLater() {
        TestJudge j = Asked.told("acts p q;let x=p;let y=q;");
        j.make(1, 0, 1, 0);
        j.drop(0);
        j.drop(0);
        ASKED.given("p q is still there", j, j.first(0, 1), 0);
        ASKED.given("p q is still there", j, j.first(0, 3), 1);
        ASKED.given("its weight", j, j.program(0, 0), 2);
    }

    /** How often * can be made, of a PROGRAM and then of what was made of it; all of it is undone. */
    private static int more(TestJudge j, int program) {
        int made = program;
        int times = 0;
        for (int i = 0; i < 8 && made >= 0; i++) {
            made = j.make(2, made, made, 0);
            times += made < 0 ? 0 : 1;
        }
        ASKED.due("no more", j.status(), 3);
        for (int i = 0; i < times; i++) {
            j.undo();
        }
        return times;
    }

    static void promise37_makeLayersGoWithTheirNumbers() {
        TestJudge j = Asked.told("tests b;acts p;let x=b;let y=p;");
        chain(j, 2, 0);
        j.drop(1);
        j.drop(0);
        // Layers 1 to 6 stand at numbers 0 to 5 now, then 2 to 6 at 0 to 4, and so on.
        for (int held = 6; held > 0; held--) {
            for (int p = 0; p < held; p++) {
                ASKED.due("more of " + p + " of " + held, more(j, p), Math.min(held - 1 - p, 8 - held));
            }
            j.drop(0);
        }
    }

    static void promise40_undoOfADropMovesLayersUpAgain() {
        for (int gone = 0; gone < 6; gone++) {
            TestJudge j = Asked.told("tests b;acts p;let x=b;let y=p;");
            chain(j, 2, 0);
            j.drop(1);
            j.drop(0);
            j.drop(gone);
            j.undo();
            for (int p = 0; p < 6; p++) {
                ASKED.due("more of " + p + ", " + gone + " undone", more(j, p), Math.min(5 - p, 2));
            }
        }
    }

    static void promise40_undoOfADropStillHasItsLayersWhenOlderOnesAreForgotten() {
        TestJudge j = Asked.told("tests b;let x=b;zero 0;");
        chain(j, 2, 0);
        j.drop(6);
        for (int i = 0; i < 4; i++) {
            j.assume(0, i % 2 == 1);
        }
        ASKED.given("many(6)", j, j.many(6), 8);
        for (int left = 7; left > 3; left--) {
            undone(j, left, 6, left % 2 == 1 ? 0 : 1);
        }
        undone(j, 3, 7, 1);
        ASKED.denied("layer 7", j, j.make(2, 6, 6, 0), 3);
        ASKED.given("layer 6", j, j.make(2, 5, 5, 0), 7);
    }

    /** What can be seen of the PROGRAMS. */
    private static String held(TestJudge j) {
        StringBuilder all = new StringBuilder();
        for (int p = 0; p < j.many(2); p++) {
            all.append(j.program(p, 0)).append(' ').append(Asked.printed(j, p)).append(more(j, p)).append('\n');
        }
        return all.toString();
    }

    static void promise40_undo8OfMoreGivesBackAllThatWas() {
        // Eleven drops and makes; eight go back to what the first three left.
        TestJudge j = Asked.told("tests b;acts p q;let x=p;let y=q q;let z=b;let w=!b q;");
        TestJudge k = Asked.told("tests b;acts p q;let x=p;let y=q q;let z=b;let w=!b q;");
        for (TestJudge judge : new TestJudge[] {j, k}) {
            judge.drop(1);
            judge.make(2, 0, 0, 0);
            judge.make(2, 3, 0, 0);
        }
        int[] dropped = {1, 4, 0, 2, 1};
        for (int i = 0; i < 5; i++) {
            if (i == 2 || i == 3 || i == 4) {
                j.make(i % 2, 0, 1, 0);
            }
            j.drop(Math.min(dropped[i], j.many(2) - 1));
        }
        ASKED.given("many(6)", j, j.many(6), 8);
        for (int i = 0; i < 8; i++) {
            j.undo();
        }
        ASKED.denied("undo()", j, j.undo(), 5);
        String got = held(j);
        String want = held(k);
        ASKED.due(got + "not " + want, got.equals(want) ? 1 : 0, 1);
    }

    private static void undoneAgain(String action, Edges.Call call) {
        EDGES.alike(action + " and undo()", j -> {
            Edges.rich(j);
            ASKED.due(action, call.on(j) >= 0 ? 1 : 0, 1);
            ASKED.given(action + ", undo()", j, j.undo(), 3);
        }, j -> {
            // Its WALK ends, too.
            Edges.rich(j);
            j.drop(4);
            j.undo();
        });
    }

    static void promise40_undoGivesBackAllThatWas() {
        for (int i = 0; i < 5; i++) {
            int number = i;
            undoneAgain("make(" + i + ", ..)", j -> j.make(number, 1, 0, 1));
            undoneAgain("drop(" + i + ")", j -> j.drop(number));
        }
        undoneAgain("assume(0, true)", j -> j.assume(0, true));
        undoneAgain("assume(1, false)", j -> j.assume(1, false));
    }

    // ---- promise 38: drop

    static void promise38_dropTheFirstTheMiddleTheLast() {
        for (int gone = 0; gone < 3; gone++) {
            TestJudge j = Asked.told("acts p;let x=1;let y=p;let z=p p;");
            ASKED.given("drop(" + gone + ")", j, j.drop(gone), 2);
            for (int p = 0; p < 2; p++) {
                ASKED.given("weight of " + p, j, j.program(p, 0), p < gone ? p : p + 1);
            }
            ASKED.denied("program(2, 0)", j, j.program(2, 0), 2);
        }
    }

    static void promise38_dropDownToNone() {
        TestJudge j = Asked.told(EIGHT);
        for (int left = 7; left >= 0; left--) {
            ASKED.denied("drop(" + (left + 1) + ")", j, j.drop(left + 1), 2);
            ASKED.denied("drop(-1)", j, j.drop(-1), 2);
            ASKED.given("drop(" + left + ")", j, j.drop(left), left);
        }
        ASKED.denied("drop(0)", j, j.drop(0), 2);
        ASKED.given("kinds()", j, j.kinds(), 0);
    }

    static void promise38_dropLeavesFactsAndNamesAlone() {
        TestJudge j = Asked.told("acts p;let x=p p;zero x;let y=x;");
        j.drop(0);
        ASKED.given("the FACT made of it", j, j.fact(0, 0), 2);
        ASKED.given("forbids still", j, j.rests(0), 0);
        ASKED.given("FACTS", j, j.many(3), 1);
    }

    // ---- promise 39: assume

    static void promise39_assumeHowManyAre() {
        TestJudge j = Asked.told("zero 0;zero 1;");
        ASKED.given("assume(1, false)", j, j.assume(1, false), 1);
        ASKED.given("assume(0, false)", j, j.assume(0, false), 0);
        ASKED.given("assume(1, true)", j, j.assume(1, true), 1);
        ASKED.given("assume(0, true)", j, j.assume(0, true), 2);
    }

    static void promise39_assumeWhatIsSoAlready() {
        TestJudge j = Asked.told("zero 0;zero 1;");
        for (int f = 0; f < 2; f++) {
            ASKED.denied("assume(f, true)", j, j.assume(f, true), 4);
            ASKED.given("assume(f, false)", j, j.assume(f, false), 1 - f);
            ASKED.denied("assume(f, false)", j, j.assume(f, false), 4);
        }
        ASKED.given("many(6)", j, j.many(6), 2);
        ASKED.given("many(5)", j, j.many(5), 0);
    }

    static void promise39_assumeNoSuchFact() {
        String[] facts = {"", "zero 0;", "zero 0;zero 0;"};
        for (int n = 0; n < 3; n++) {
            TestJudge j = Asked.told(facts[n]);
            for (int f : new int[] {n, -1, 2, 32, Integer.MAX_VALUE, Integer.MIN_VALUE}) {
                ASKED.denied("assume(" + f + ", true) of " + n, j, j.assume(f, true), 2);
                ASKED.denied("assume(" + f + ", false) of " + n, j, j.assume(f, false), 2);
            }
        }
    }

    // ---- promise 40: undo

    static void promise40_undoNothing() {
        TestJudge j = new TestJudge();
        ASKED.denied("undo() of a new one", j, j.undo(), 5);
        Asked.load(j, "let x=1;");
        ASKED.denied("undo() of a TEXT", j, j.undo(), 5);
        j.drop(0);
        ASKED.given("undo()", j, j.undo(), 0);
        ASKED.denied("undo() once more", j, j.undo(), 5);
        ASKED.given("PROGRAMS", j, j.many(2), 1);
    }

    static void promise40_undoEachAction() {
        TestJudge j = Asked.told("tests b;acts p;zero b;zero p;let x=p;let y=b;let z=1;");
        j.make(2, 0, 0, 0);
        j.drop(1);
        j.assume(1, false);
        j.drop(2);
        j.assume(1, true);
        j.make(1, 0, 0, 0);
        undone(j, 5, 2, 3);
        undone(j, 4, 2, 1);
        undone(j, 3, 3, 1);
        ASKED.given("p* is back", j, j.program(2, 0), 1);
        undone(j, 2, 3, 3);
        undone(j, 1, 4, 3);
        ASKED.given("p* is behind the others", j, j.program(3, 0), 1);
        undone(j, 0, 3, 3);
        ASKED.denied("undo()", j, j.undo(), 5);
    }

    static void promise40_undoADropPutsItInItsPlace() {
        String text = EIGHT.replace("=1;", "=b;");
        for (int i = 0; i < 8; i++) {
            int gone = i;
            EDGES.alike("drop(" + gone + ") undone", j -> {
                Asked.load(j, text);
                j.drop(gone);
                ASKED.given("undo()", j, j.undo(), 0);
            }, j -> Asked.load(j, text));
        }
    }

    static void promise40_undo8AndNot9() {
        TestJudge j = Asked.told("let x=1;let y=0;zero 0;");
        j.drop(0);
        for (int i = 0; i < 7; i++) {
            j.assume(0, i % 2 == 1);
        }
        ASKED.given("many(6)", j, j.many(6), 8);
        for (int left = 7; left > 0; left--) {
            undone(j, left, 1, left % 2);
        }
        undone(j, 0, 2, 1);
        ASKED.denied("undo()", j, j.undo(), 5);
        j.drop(0);
        for (int i = 0; i < 8; i++) {
            j.assume(0, i % 2 == 1);
        }
        ASKED.given("many(6)", j, j.many(6), 8);
        for (int left = 7; left >= 0; left--) {
            undone(j, left, 1, (left + 1) % 2);
        }
        ASKED.denied("the ninth is not kept", j, j.undo(), 5);
        ASKED.given("PROGRAMS", j, j.many(2), 1);
    }

    static void promise40_undoOfManyActionsTheLatestOnes() {
        TestJudge j = Asked.told("tests b;acts p;let x=p;let y=1;zero 0;");
        // Twelve actions, of each kind four: the first four are no more kept.
        for (int i = 0; i < 4; i++) {
            ASKED.given("make()", j, j.make(0, 1, 1, 0), 2);
            ASKED.given("drop()", j, j.drop(1), 2);
            ASKED.given("assume()", j, j.assume(0, i % 2 == 1), i % 2);
        }
        int[] programs = {2, 3, 2, 2, 3, 2, 2, 3};
        int[] assumed = {0, 0, 0, 1, 1, 1, 0, 0};
        for (int i = 0; i < 8; i++) {
            undone(j, 7 - i, programs[i], assumed[i]);
        }
        ASKED.denied("undo()", j, j.undo(), 5);
    }

    static void promise40_undoThenAnotherAction() {
        TestJudge j = Asked.told("acts p;let x=p;zero 0;");
        j.make(2, 0, 0, 0);
        j.assume(0, false);
        undone(j, 1, 2, 1);
        j.make(1, 0, 0, 0);
        ASKED.given("many(6)", j, j.many(6), 2);
        undone(j, 1, 2, 1);
        undone(j, 0, 1, 1);
        for (int i = 0; i < 8; i++) {
            j.assume(0, i % 2 == 1);
        }
        undone(j, 7, 1, 0);
        j.make(0, 0, 0, 0);
        ASKED.given("many(6)", j, j.many(6), 8);
        undone(j, 7, 1, 0);
        undone(j, 6, 1, 1);
    }

    static void promise40_undoOfRefusedActionsIsNone() {
        TestJudge j = Asked.told("tests b;acts p;let x=p p p;zero 0;");
        j.make(0, 0, 0, 0);
        j.make(5, 0, 0, 0);
        j.make(0, 1, 0, 0);
        j.drop(1);
        j.assume(0, true);
        j.assume(1, true);
        ASKED.given("many(6)", j, j.many(6), 0);
        ASKED.denied("undo()", j, j.undo(), 5);
    }

    static void promise40_undoIsForgottenByLoad() {
        TestJudge j = Asked.told("let x=1;");
        j.drop(0);
        j.load(1);
        ASKED.given("load() with STATUS 1", j, j.many(6), 1);
        Asked.load(j, "?");
        ASKED.given("load() with STATUS 9", j, j.many(6), 1);
        j.load(0);
        ASKED.given("load() with STATUS 0", j, j.many(6), 0);
        ASKED.denied("undo()", j, j.undo(), 5);
        ASKED.given("PROGRAMS", j, j.many(2), 0);
    }

    static void promise40_undoMakesRoomForTheEighth() {
        TestJudge j = Asked.told(EIGHT);
        j.drop(7);
        j.make(0, 1, 1, 0);
        ASKED.denied("the ninth", j, j.make(0, 1, 1, 0), 3);
        undone(j, 1, 7, 0);
        undone(j, 0, 8, 0);
        ASKED.denied("the ninth", j, j.make(0, 1, 1, 0), 3);
        ASKED.given("the eighth is the one that was told", j, j.program(7, 0), 3);
    }

    static void promise40_undoGivesLayersBack() {
        TestJudge j = Asked.told("let x=1;");
        chain(j, 2, 0);
        j.drop(6);
        j.undo();
        ASKED.denied("layer 7", j, j.make(2, 6, 6, 0), 3);
        j.drop(0);
        j.undo();
        ASKED.denied("layer 7", j, j.make(2, 6, 6, 0), 3);
        ASKED.given("layer 1", j, j.make(2, 0, 6, 0), 7);
    }

    // ---- promise 41: print

    static void promise41_printNoRests() {
        TestJudge j = Asked.told("tests b;acts p;let x=0;let y=p;");
        j.print(1);
        ASKED.given("print(0)", j, j.print(0), 0);
        ASKED.due("out(0) throws", Edges.throwing(j, 0) ? 1 : 0, 1);
    }

    private static void printed(String text, String table) {
        TestJudge j = Asked.told(text);
        ASKED.given(text + ": print(0)", j, j.print(0), table.length());
        StringBuilder out = new StringBuilder();
        for (int i = 0; i < table.length() && !Edges.throwing(j, i); i++) {
            out.append((char) j.out(i));
        }
        ASKED.due(text + ": " + out, out.toString().equals(table) ? 1 : 0, 1);
        ASKED.due(text + ": out() behind it throws", Edges.throwing(j, table.length()) ? 1 : 0, 1);
    }

    static void promise41_printEachAtomAndAct() {
        printed("let x=1;", "0:1;");
        printed("acts p q r;let x=(p+q+r)*;", "0:1 0a0 0b0 0c0;");
        printed("tests b c d;acts p q r;let x=b c d r b c d;", "0:0 7c1;1:128;");
        printed("tests b c d;let x=1;", "0:255;");
        printed("tests b c d;let x=!b c+b!c d;", "0:100;".replace("100", String.valueOf(4 + 64 + 32)));
        printed("tests b;acts p q;let x=p q b+!b q p;", "0:0 0a1 0b2 1a1;1:0 0b3 1b3;2:0 0a4 1a4;3:2;4:3;");
        printed("tests b;acts p q;zero p q;let x=(p+q)*;", "0:3 0a1 0b0 1a1 1b0;1:3 0a1 1a1;");
    }

    static void promise41_printAtomsAsANumber() {
        for (int set = 1; set < 256; set++) {
            StringBuilder text = new StringBuilder("tests b c d;let x=0");
            for (int atom = 0; atom < 8; atom++) {
                if ((set >> atom & 1) != 0) {
                    text.append((atom & 1) == 0 ? "+!b" : "+b").append((atom & 2) == 0 ? "!c" : " c");
                    text.append((atom & 4) == 0 ? "!d" : " d");
                }
            }
            TestJudge j = Asked.told(text.append(";").toString());
            ASKED.given("atoms(0)", j, j.atoms(0), set);
            ASKED.due("0:" + set + ";", Asked.printed(j, 0).equals("0:" + set + ";") ? 1 : 0, 1);
        }
    }

    static void promise41_printNumbersOfTwoDigits() {
        // Eleven RESTS, each 9 acts and more behind the start.
        TestJudge j = Asked.told("tests b c;acts p;zero !c p (!c+!c);zero p b;let x=((p !b p !b !b p p + p !c !c)*)*;");
        ASKED.due("rests", j.rests(0) > 10 ? 1 : 0, 1);
        String table = Asked.printed(j, 0);
        int last = j.rests(0) - 1;
        ASKED.due("the last line", table.contains(";" + last + ":") ? 1 : 0, 1);
        int semicolons = table.length() - table.replace(";", "").length();
        ASKED.due("lines", semicolons, last + 1);
        for (int k = 0; k <= last; k++) {
            StringBuilder line = new StringBuilder().append(k == 0 ? "" : ";").append(k).append(":").append(j.rest(0, k));
            for (int atom = 0; atom < 4; atom++) {
                int to = j.next(0, k, atom, 0);
                line.append(to < 0 ? "" : " " + atom + "a" + to);
            }
            line.append(";");
            boolean there = k == 0 ? table.startsWith(line.toString()) : table.contains(line);
            ASKED.due("line " + line, there ? 1 : 0, 1);
        }
    }

    static void promise41_print60RestsAndNot61() {
        TestJudge j = Asked.told(SIXTY);
        ASKED.given("rests(0)", j, j.rests(0), 60);
        int size = j.print(0);
        StringBuilder table = new StringBuilder();
        for (int i = 0; i < size; i++) {
            // A judge is good for 512 calls: each of some reads a part of it.
            if (i % 400 == 0) {
                j = Asked.told(SIXTY);
                ASKED.given("print(0)", j, j.print(0), size);
            }
            table.append((char) j.out(i));
        }
        String[] lines = table.toString().split(";");
        ASKED.due("lines", lines.length, 60);
        for (int k = 0; k < lines.length; k++) {
            ASKED.due("line " + lines[k], lines[k].startsWith(k + ":" + j.rest(0, k)) ? 1 : 0, 1);
        }
        ASKED.due("its end", table.charAt(size - 1), ';');
        ASKED.due("no more", Edges.throwing(j, size) ? 1 : 0, 1);
        TestJudge k = Asked.told(SIXTY_ONE);
        ASKED.given("rests(0)", k, k.rests(0), 61);
        ASKED.denied("print(0)", k, k.print(0), 3);
        ASKED.denied("print(2)", k, k.print(2), 2);
        ASKED.due("there is no OUT yet", Edges.throwing(k, 0) ? 1 : 0, 1);
    }

    static void promise41_print61LeavesOutAlone() {
        EDGES.refused("print() of 61 RESTS", j -> {
            Asked.load(j, SIXTY_ONE);
            j.print(1);
            j.walk(0);
            j.step(0, 0);
        }, j -> j.print(0), 3);
    }

    // ---- promise 42: out

    static void promise42_outAheadOfAnyPrint() {
        for (int i : new int[] {0, 1, -1, Integer.MAX_VALUE, Integer.MIN_VALUE}) {
            EDGES.thrown("out(" + i + ") of a new one", Edges::empty, i);
        }
        TestJudge j = Asked.told("let x=1;");
        j.print(1);
        ASKED.due("behind print() with STATUS 2", Edges.throwing(j, 0) ? 1 : 0, 1);
    }

    static void promise42_outFirstAndLastByteAndNoMore() {
        TestJudge j = Asked.told("acts p;let x=p;");
        String table = "0:0 0a1;1:1;";
        ASKED.given("print(0)", j, j.print(0), table.length());
        for (int i = 0; i < table.length(); i++) {
            ASKED.due("out(" + i + ")", j.out(i), table.charAt(i));
        }
        for (int i : new int[] {table.length(), table.length() + 1, -1, Integer.MAX_VALUE, Integer.MIN_VALUE}) {
            EDGES.thrown("out(" + i + ")", k -> {
                Asked.load(k, "acts p;let x=p;");
                k.print(0);
            }, i);
        }
    }

    static void promise42_outThrowsAndChangesNothing() {
        for (int i : new int[] {-1, 26, 100000}) {
            EDGES.thrown("out(" + i + ")", Edges::rich, i);
        }
    }

    static void promise42_outIsThatOfTheLatestPrint() {
        TestJudge j = Asked.told("acts p;let x=p;let y=1;let z=0;");
        j.print(0);
        j.print(1);
        ASKED.due("a shorter one", j.out(3), ';');
        ASKED.due("no more of the longer one", Edges.throwing(j, 4) ? 1 : 0, 1);
        j.print(2);
        ASKED.due("an empty one", Edges.throwing(j, 0) ? 1 : 0, 1);
        j.print(0);
        ASKED.due("the longer one again", j.out(11), ';');
    }

    static void promise42_outStaysOverOtherCalls() {
        TestJudge j = Asked.told("acts p;let x=1;let y=p;zero p p;");
        j.print(0);
        j.print(2);
        j.drop(0);
        j.undo();
        j.assume(0, false);
        j.rests(1);
        j.walk(1);
        Asked.load(j, "?");
        ASKED.due("out(0)", j.out(0), '0');
        ASKED.due("out(3)", j.out(3), ';');
        ASKED.due("out(4) throws", Edges.throwing(j, 4) ? 1 : 0, 1);
    }
}
