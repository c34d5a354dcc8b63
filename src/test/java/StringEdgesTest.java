/** Boundary cases of strings (==== 2) and of promises 1, 2 and 6 to 14. */
public final class StringEdgesTest {
    private static final Asked ASKED = new Asked("StringEdgesTest");
    private static final Edges EDGES = new Edges(ASKED);
    private static final int NONE = TestJudge.NONE;
    private static final String FULL = "tests b c d;acts p q r;let u=p p q q r;let v=1;let w=0;let x=p;let y=q;let z=r;"
            + "let s=(p+q+r)*;let t=b;zero p q;zero b c d;";

    public static void main(String[] args) throws IllegalAccessException {
        EDGES.run(StringEdgesTest.class);
    }

    private static void string(TestJudge j, int program, int... places) {
        ASKED.given("first(" + program + ", NONE)", j, j.first(program, NONE), places.length / 2);
        for (int k = 0; k < places.length; k++) {
            ASKED.given("first(" + program + ", " + k + ")", j, j.first(program, k), places[k]);
        }
        ASKED.denied("first() behind its last place", j, j.first(program, places.length), 5);
    }

    // ---- promises 1, 2: a new object, status

    static void promise01_aNewObjectHasNothing() {
        TestJudge j = new TestJudge();
        ASKED.due("status()", j.status(), 0);
        int[] want = {0, 0, 0, 0, 1, 0, 0, 0};
        for (int what = 0; what < 8; what++) {
            ASKED.given("many(" + what + ")", new TestJudge(), new TestJudge().many(what), want[what]);
            ASKED.given("many(" + what + ")", j, j.many(what), want[what]);
        }
        ASKED.given("kinds()", j, j.kinds(), 0);
        ASKED.denied("program(0, 0)", j, j.program(0, 0), 2);
        ASKED.denied("fact(0, 0)", j, j.fact(0, 0), 2);
        ASKED.denied("step(0, 0): no ACT", j, j.step(0, 0), 2);
        ASKED.denied("walked(0)", j, j.walked(0), 5);
        ASKED.denied("make(0, 0, 0, 0)", j, j.make(0, 0, 0, 0), 2);
        ASKED.denied("drop(0)", j, j.drop(0), 2);
        ASKED.denied("assume(0, false)", j, j.assume(0, false), 2);
        ASKED.denied("undo()", j, j.undo(), 5);
        ASKED.denied("load(1)", j, j.load(1), 1);
    }

    static void promise01_newObjectsHaveNothingInCommon() {
        TestJudge one = Asked.told(FULL);
        one.drop(0);
        one.print(1);
        one.walk(2);
        one.many(9);
        EDGES.alike("a new object beside another one", j -> {
            Asked.told(FULL).many(9);
            ASKED.due("status()", j.status(), 0);
        }, Edges::empty);
        ASKED.given("the one, behind it", one, one.many(2), 7);
    }

    static void promise01_the512thCallIsAnswered() {
        TestJudge j = Asked.told(FULL);
        // To tell it took a feed() for each twenty bytes, and a load().
        int told = (FULL.length() + 19) / 20 + 1;
        for (int call = told + 1; call < 511; call++) {
            ASKED.due("call " + call, j.count(6, call % 13), count(call % 13));
        }
        ASKED.due("call 511", j.print(1), "0:127;".length());
        ASKED.due("call 512", j.out(5), ';');
    }

    /** Of (p+q+r)*, where q is never right behind p, and atom 7 is forbidden: by the last ACT. */
    private static long count(int n) {
        long p = 0;
        long others = 1;
        for (int i = 0; i < n; i++) {
            long all = p + others;
            others = all + others;
            p = all;
        }
        long strings = p + others;
        for (int i = 0; i <= n; i++) {
            strings *= 7;
        }
        return strings;
    }

    static void promise02_statusOfANewObject() {
        TestJudge j = new TestJudge();
        ASKED.due("status()", j.status(), 0);
        ASKED.due("status() again", j.status(), 0);
    }

    static void promise02_statusOfTheLatestCall() {
        TestJudge j = new TestJudge();
        Asked.load(j, "tests b;acts p;let x=p p p p;let y=0;zero 0;");
        ASKED.due("0", j.status(), 0);
        j.many(8);
        ASKED.due("1", j.status(), 1);
        j.atoms(2);
        ASKED.due("2", j.status(), 2);
        j.swaps(0, 0);
        ASKED.due("3", j.status(), 3);
        j.assume(0, true);
        ASKED.due("4", j.status(), 4);
        j.least(1);
        ASKED.due("5", j.status(), 5);
        Asked.load(j, "?");
        ASKED.due("9", j.status(), 9);
        j.kinds();
        ASKED.due("0 again", j.status(), 0);
    }

    static void promise02_statusOfCallsThatHaveNone() {
        int[] others = {0, 1, 2, 5, 9};
        for (int status : others) {
            TestJudge j = Asked.told("let x=0;");
            long made = status == 0 ? j.many(0) : status == 1 ? j.many(9) : status == 2 ? j.rests(1)
                    : status == 5 ? j.walk(0) : Asked.load(j, "?");
            ASKED.due("answer with " + status, made, status == 0 ? 0 : NONE);
            j.feed(0, 0, 0, 0, 0);
            ASKED.due("behind feed()", j.status(), status);
            j.fault(0);
            j.fault(7);
            ASKED.due("behind fault()", j.status(), status);
            ASKED.due("out(0) throws", Edges.throwing(j, 0) ? 1 : 0, 1);
            ASKED.due("behind out()", j.status(), status);
            ASKED.due("behind status()", j.status(), status);
        }
    }

    static void promise02_countAndBothHaveAStatusToo() {
        TestJudge j = Asked.told("let x=1;");
        j.many(9);
        ASKED.given("count()", j, j.count(0, 0), 1);
        j.many(9);
        ASKED.given("both()", j, j.both(0, 0, 1), 0);
    }

    // ---- ==== 2: atoms and strings

    static void terms2_atomsAre2ToTheTests() {
        String[] tests = {"", "tests b;", "tests b c;", "tests b c d;"};
        int[] all = {1, 3, 15, 255};
        for (int n = 0; n < 4; n++) {
            TestJudge j = Asked.told(tests[n] + "acts p;let x=1;let y=p;");
            ASKED.given("many(4)", j, j.many(4), 1 << n);
            ASKED.given("atoms of 1", j, j.atoms(0), all[n]);
            ASKED.given("strings of an ACT", j, j.count(1, 1), 1L << 2 * n);
            ASKED.given("uses(1, 0)", j, j.uses(1, 0), all[n]);
            ASKED.given("uses(1, 1)", j, j.uses(1, 1), all[n]);
            ASKED.given("right(all, 0, all)", j, j.right(all[n], 0, all[n]), 1);
            ASKED.denied("right(all + 1, 0, all)", j, j.right(all[n] + 1, 0, all[n]), 1);
            ASKED.given("the last ATOM", j, j.next(1, 0, (1 << n) - 1, 0), 1);
            ASKED.denied("no such ATOM", j, j.next(1, 0, 1 << n, 0), 2);
        }
    }

    static void terms2_bitKOfAnAtomIsForTestK() {
        TestJudge j = Asked.told("tests b c d;let x=b;let y=c;let z=d;let u=!b!c!d;let v=b c d;let w=b!c d;");
        int[] atoms = {0xaa, 0xcc, 0xf0, 1, 0x80, 0x20};
        for (int p = 0; p < 6; p++) {
            ASKED.given("atoms(" + p + ")", j, j.atoms(p), atoms[p]);
        }
    }

    static void terms2_zeroHasNoString() {
        TestJudge j = Asked.told("tests b;acts p;let x=0;let y=p 0 p;let z=b!b;");
        for (int p = 0; p < 3; p++) {
            ASKED.given("atoms(" + p + ")", j, j.atoms(p), 0);
            ASKED.given("rests(" + p + ")", j, j.rests(p), 0);
            ASKED.denied("least(" + p + ")", j, j.least(p), 5);
            for (int n = 0; n <= 12; n++) {
                ASKED.given("count(" + p + ", " + n + ")", j, j.count(p, n), 0);
            }
        }
    }

    static void terms2_oneHasEachAtomAlone() {
        TestJudge j = Asked.told("tests b;acts p;let x=1;");
        ASKED.given("count(0, 0)", j, j.count(0, 0), 2);
        for (int n = 1; n <= 12; n++) {
            ASKED.given("count(0, " + n + ")", j, j.count(0, n), 0);
        }
    }

    static void terms2_stringsAreJoinedByTheSameAtom() {
        TestJudge j = Asked.told("tests b;acts p q;let x=p b q;let y=p b!b q;let z=b b;let w=p b b!b;let v=b p;let u=p b;");
        ASKED.given("p b q: the joined ATOM stands once", j, j.count(0, 2), 4);
        string(j, 0, 0, 0, 1, 1, 0);
        ASKED.given("p b !b q", j, j.count(1, 2), 0);
        ASKED.given("b b: its LENGTH is 0", j, j.least(2), 0);
        ASKED.given("p b b !b", j, j.rests(3), 0);
        string(j, 4, 1, 0, 0);
        string(j, 5, 0, 0, 1);
    }

    static void terms2_starOfNoneIsEachAtom() {
        TestJudge j = Asked.told("tests b;acts p;let x=0*;let y=1;let z=b*;let w=(p 0)*;let v=1*;");
        for (int p = 0; p < 5; p++) {
            ASKED.given("equal(" + p + ", 1)", j, j.equal(p, 1), 1);
        }
    }

    static void terms2_starOfAnyNumber() {
        TestJudge j = Asked.told("acts p;let x=p*;let y=(p p p)*;let z=(p p+p p p)*;");
        for (int n = 0; n <= 12; n++) {
            ASKED.given("count(0, " + n + ")", j, j.count(0, n), 1);
            ASKED.given("count(1, " + n + ")", j, j.count(1, n), n % 3 == 0 ? 1 : 0);
            ASKED.given("count(2, " + n + ")", j, j.count(2, n), n == 1 ? 0 : 1);
        }
    }

    static void terms2_bangHasTheOtherAtoms() {
        TestJudge j = Asked.told("tests b c;let x=!b;let y=!0;let z=!1;let w=!!b;let v=!(b c);");
        int[] atoms = {5, 15, 0, 10, 7};
        for (int p = 0; p < 5; p++) {
            ASKED.given("atoms(" + p + ")", j, j.atoms(p), atoms[p]);
        }
    }

    static void terms2_ifAndWhileAreSumsOfRows() {
        TestJudge j = Asked.told("tests b;acts p q;let x=if b then p else q end;let y=b p+!b q;let z=while b do p end;"
                + "let w=(b p)*!b;let v=while 0 do p end;let u=while 1 do p end;let t=if 0 then p else q end;let s=q;");
        ASKED.given("if", j, j.equal(0, 1), 1);
        ASKED.given("while", j, j.equal(2, 3), 1);
        ASKED.given("while 0: each ATOM", j, j.count(4, 0), 2);
        ASKED.given("while 0: no more", j, j.rests(4), 1);
        ASKED.given("while 1: none", j, j.rests(5), 0);
        ASKED.given("if 0: the else", j, j.equal(6, 7), 1);
    }

    static void terms2_sumsOfWhatIsThereTwiceHaveItOnce() {
        TestJudge j = Asked.told("acts p;let x=p+p;let y=p*+p+1;");
        ASKED.given("p + p", j, j.count(0, 1), 1);
        ASKED.given("p* + p + 1", j, j.count(1, 0) + j.count(1, 1), 2);
    }

    // ---- ==== 2: what is forbidden

    static void terms2_forbiddenIfAPartIsWhereverItStands() {
        TestJudge j = Asked.told("acts p q r;zero p q;let x=p q;let y=p q r;let z=r p q;let w=r p q r;let v=q p;let u=p r q;");
        for (int p = 0; p < 4; p++) {
            ASKED.given("rests(" + p + ")", j, j.rests(p), 0);
        }
        ASKED.given("q p", j, j.count(4, 2), 1);
        ASKED.given("p r q", j, j.count(5, 3), 1);
    }

    static void terms2_anAtomAloneIsAPartToo() {
        TestJudge j = Asked.told("tests b;acts p;zero b;let x=b;let y=b p;let z=p b;let w=p b p;let v=p p;let u=1;");
        for (int p = 0; p < 4; p++) {
            ASKED.given("rests(" + p + ")", j, j.rests(p), 0);
        }
        ASKED.given("p p", j, j.count(4, 2), 1);
        ASKED.given("atoms of 1", j, j.atoms(5), 1);
    }

    static void terms2_aPartIsFromAtomToAtom() {
        TestJudge j = Asked.told("tests b;acts p q;zero b p!b;let x=p;let y=p p;let z=b q!b;");
        ASKED.given("p", j, j.count(0, 1), 3);
        ASKED.given("p p", j, j.count(1, 2), 4);
        ASKED.given("b q !b", j, j.count(2, 1), 1);
    }

    static void terms2_aFactWithoutStringsForbidsNone() {
        TestJudge j = Asked.told("tests b;acts p;zero 0;zero b p!b 0;let x=(p+b)*;");
        ASKED.given("many(5)", j, j.many(5), 3);
        ASKED.given("many(7)", j, j.many(7), 0);
        ASKED.given("count(0, 12)", j, j.count(0, 12), 1 << 13);
    }

    static void terms2_aFactOfAllAtomsForbidsAll() {
        TestJudge j = Asked.told("tests b c d;acts p;zero 1;let x=1;let y=p*;");
        ASKED.given("many(7)", j, j.many(7), 255);
        ASKED.given("equal(0, 1)", j, j.equal(0, 1), 1);
        ASKED.given("rests(1)", j, j.rests(1), 0);
        ASKED.given("kinds()", j, j.kinds(), 1);
        ASKED.denied("first(1, NONE)", j, j.first(1, NONE), 5);
        j.assume(0, false);
        ASKED.given("many(7)", j, j.many(7), 0);
        ASKED.given("kinds()", j, j.kinds(), 2);
    }

    static void terms2_aFactWithStarsForbidsEachAtomOfIt() {
        TestJudge j = Asked.told("tests b;acts p;zero p*;let x=1;");
        ASKED.given("many(7)", j, j.many(7), 3);
        TestJudge k = Asked.told("tests b;acts p q;zero b(q!b)*p b;let x=b p b;let y=b q!b p b;let z=b q b p b;"
                + "let w=b q!b q!b p b;let v=b q!b p!b;");
        int[] rests = {0, 0, 0, 0, 3};
        for (int p = 0; p < 5; p++) {
            ASKED.given("rests(" + p + ")", k, k.rests(p), rests[p]);
        }
    }

    static void terms2_factsForbidTogetherWhatEachForbids() {
        TestJudge j = Asked.told("tests b;acts p;zero b p b;zero!b p!b;let x=p*;");
        int[][] counts = {{2, 4, 8, 16, 32}, {2, 3, 5, 8, 13}, {2, 3, 5, 8, 13}, {2, 2, 2, 2, 2}};
        int[] steps = {3, 1, 0, 2};
        for (int i = 0; i < 4; i++) {
            int set = steps[i];
            ASKED.due("many(5)", j.many(5), set);
            for (int n = 0; n < 5; n++) {
                ASKED.given("count(0, " + n + ") with " + set, j, j.count(0, n), counts[set][n]);
            }
            j.assume(i % 2 == 0 ? 1 : 0, i >= 2);
        }
    }

    static void terms2_allFactsAreAssumedAtFirst() {
        String[] facts = {"", "zero 0;", "zero 0;zero 0;"};
        for (int n = 0; n < 3; n++) {
            TestJudge j = Asked.told(facts[n]);
            ASKED.given("many(5)", j, j.many(5), (1 << n) - 1);
            for (int f = 0; f < n; f++) {
                ASKED.given("fact(" + f + ", 1)", j, j.fact(f, 1), 1);
            }
        }
    }

    // ---- ==== 2: the order of strings

    static void terms2_aShorterStringComesFirst() {
        TestJudge j = Asked.told("tests b;acts p q;let x=p+b;let y=p p+b q b;let z=!b p!b p+b q;");
        string(j, 0, 1);
        string(j, 1, 1, 1, 1);
        string(j, 2, 1, 1, 0);
    }

    static void terms2_thenPlaceByPlaceTheLesser() {
        TestJudge j = Asked.told("tests b c;acts p q;let x=c p+b q;let y=b q+b p c;let z=b p c+b p b;"
                + "let w=b p b c q+b p b q;let v=c q p+c p q b;");
        string(j, 0, 1, 1, 0);
        string(j, 1, 1, 0, 2);
        string(j, 2, 1, 0, 1);
        string(j, 3, 1, 0, 1, 1, 0);
        string(j, 4, 2, 0, 0, 1, 1);
    }

    static void terms2_theLastAtomAndActOfAll() {
        TestJudge j = Asked.told("tests b c d;acts p q r;let x=b c d r b c d;let y=b c d;");
        string(j, 0, 7, 2, 7);
        string(j, 1, 7);
    }

    // ---- promise 6: many

    static void promise06_manyOfNothing() {
        int[] want = {0, 0, 0, 0, 1, 0, 0, 0};
        TestJudge j = Asked.told("");
        for (int what = 0; what < 8; what++) {
            ASKED.given("many(" + what + ")", j, j.many(what), want[what]);
        }
    }

    static void promise06_manyOfAllThatCanBe() {
        int[] want = {3, 3, 8, 2, 8, 3, 0, 128};
        TestJudge j = Asked.told(FULL);
        for (int what = 0; what < 8; what++) {
            ASKED.given("many(" + what + ")", j, j.many(what), want[what]);
        }
    }

    static void promise06_manyActionsFrom0To8() {
        TestJudge j = Asked.told("zero 0;");
        for (int n = 0; n <= 10; n++) {
            ASKED.given("many(6) behind " + n, j, j.many(6), Math.min(n, 8));
            j.assume(0, n % 2 == 1);
        }
    }

    static void promise06_manyAssumedAsBits() {
        TestJudge j = Asked.told("zero 0;zero 0;");
        ASKED.given("both", j, j.many(5), 3);
        j.assume(0, false);
        ASKED.given("the second", j, j.many(5), 2);
        j.assume(1, false);
        ASKED.given("none", j, j.many(5), 0);
        j.assume(0, true);
        ASKED.given("the first", j, j.many(5), 1);
        ASKED.given("FACTS", j, j.many(3), 2);
    }

    static void promise06_manyForbiddenByThemselvesByWhatIsAssumed() {
        TestJudge j = Asked.told("tests b c;acts p;zero b;zero c+p;");
        ASKED.given("by both", j, j.many(7), 14);
        j.assume(0, false);
        ASKED.given("by the second", j, j.many(7), 12);
        j.assume(1, false);
        ASKED.given("by none", j, j.many(7), 0);
        j.assume(0, true);
        ASKED.given("by the first", j, j.many(7), 10);
    }

    static void promise06_many0To7AndNoOther() {
        TestJudge j = Asked.told(FULL);
        ASKED.denied("many(-1)", j, j.many(-1), 1);
        ASKED.given("many(0)", j, j.many(0), 3);
        ASKED.given("many(7)", j, j.many(7), 128);
        ASKED.denied("many(8)", j, j.many(8), 1);
        ASKED.denied("many(least)", j, j.many(Integer.MIN_VALUE), 1);
        ASKED.denied("many(greatest)", j, j.many(Integer.MAX_VALUE), 1);
    }

    // ---- promises 7, 8: program, fact

    static void promise07_programOfWeight0To5() {
        TestJudge j = Asked.told("acts p;let a=1;let b=p;let c=p p;let d=c p;let e=c c;let f=d c;let g=0;");
        int[] weights = {0, 1, 2, 3, 4, 5, 0};
        for (int p = 0; p < 7; p++) {
            ASKED.given("program(" + p + ", 0)", j, j.program(p, 0), weights[p]);
            ASKED.given("program(" + p + ", 1)", j, j.program(p, 1), weights[p] == 0 ? 1 : 0);
        }
    }

    static void promise07_programIsNotPlainThoughItsActNeverComes() {
        TestJudge j = Asked.told("tests b;acts p;let x=0 p;let y=b+p 0;let z=y;zero p;let w=p;let v=!b;");
        int[] plain = {0, 0, 0, 0, 1};
        for (int p = 0; p < 5; p++) {
            ASKED.given("program(" + p + ", 1)", j, j.program(p, 1), plain[p]);
        }
    }

    static void promise07_programTheLastOneAndNoMore() {
        TestJudge j = Asked.told(FULL);
        ASKED.given("program(7, 1)", j, j.program(7, 1), 1);
        ASKED.denied("program(8, 1)", j, j.program(8, 1), 2);
        j.drop(0);
        ASKED.given("program(6, 1)", j, j.program(6, 1), 1);
        ASKED.denied("program(7, 1)", j, j.program(7, 1), 2);
        ASKED.denied("program(7, 2)", j, j.program(7, 2), 1);
    }

    static void promise08_factOfWeight0To2() {
        String[] texts = {"acts p;zero 1;", "acts p;zero p;", "acts p;zero p p;"};
        for (int weight = 0; weight < 3; weight++) {
            TestJudge j = Asked.told(texts[weight]);
            ASKED.given("fact(0, 0)", j, j.fact(0, 0), weight);
            ASKED.given("fact(0, 1)", j, j.fact(0, 1), 1);
            ASKED.denied("fact(1, 0)", j, j.fact(1, 0), 2);
        }
    }

    static void promise08_factAssumedOrNot() {
        TestJudge j = Asked.told("zero 0;zero 1;");
        for (int f = 0; f < 2; f++) {
            ASKED.given("fact(f, 1)", j, j.fact(f, 1), 1);
            j.assume(f, false);
            ASKED.given("fact(f, 1), no more", j, j.fact(f, 1), 0);
            ASKED.given("fact(1 - f, 1)", j, j.fact(1 - f, 1), 1);
            j.assume(f, true);
            ASKED.given("fact(f, 1), again", j, j.fact(f, 1), 1);
        }
    }

    static void promise08_factTheLastOneAndNoMore() {
        TestJudge j = Asked.told("acts p;zero 0;zero p p;");
        ASKED.given("fact(1, 0)", j, j.fact(1, 0), 2);
        ASKED.denied("fact(2, 0)", j, j.fact(2, 0), 2);
        ASKED.denied("fact(2, 2)", j, j.fact(2, 2), 1);
        ASKED.denied("fact(-1, -1)", j, j.fact(-1, -1), 1);
    }

    // ---- promises 9, 10: atoms, uses

    static void promise09_atomsNoneAndAll() {
        TestJudge j = Asked.told("tests b c d;acts p;let x=p;let y=p*;let z=b c d;let w=!b!c!d;zero d;");
        ASKED.given("an ACT has none", j, j.atoms(0), 0);
        ASKED.given("less those that are FORBIDDEN", j, j.atoms(1), 15);
        ASKED.given("the last one, FORBIDDEN", j, j.atoms(2), 0);
        ASKED.given("the first one", j, j.atoms(3), 1);
        j.assume(0, false);
        ASKED.given("all", j, j.atoms(1), 255);
        ASKED.given("the last one", j, j.atoms(2), 128);
    }

    static void promise10_usesOfAllThatCanBe() {
        TestJudge j = Asked.told("tests b c d;acts p q r;let x=(p+q+r)*;let y=0;");
        int[] all = {255, 255, 7};
        for (int what = 0; what < 3; what++) {
            ASKED.given("uses(0, " + what + ")", j, j.uses(0, what), all[what]);
            ASKED.given("uses(1, " + what + ")", j, j.uses(1, what), 0);
        }
        ASKED.denied("uses(0, 3)", j, j.uses(0, 3), 1);
        ASKED.denied("uses(0, -1)", j, j.uses(0, -1), 1);
        ASKED.denied("uses(2, 3)", j, j.uses(2, 3), 1);
        ASKED.denied("uses(2, 2)", j, j.uses(2, 2), 2);
    }

    static void promise10_usesOfWhatComesInStringsAlone() {
        TestJudge j = Asked.told("tests b;acts p q r;let x=p 0+q b;let y=b r!b p 0;let z=b;let w=q b p!b;zero q b p;");
        int[][] uses = {{3, 2, 2}, {0, 0, 0}, {2, 2, 0}, {0, 0, 0}};
        for (int p = 0; p < 4; p++) {
            for (int what = 0; what < 3; what++) {
                ASKED.given("uses(" + p + ", " + what + ")", j, j.uses(p, what), uses[p][what]);
            }
        }
        j.assume(0, false);
        int[] last = {3, 1, 3};
        for (int what = 0; what < 3; what++) {
            ASKED.given("uses(3, " + what + "), nothing forbidden", j, j.uses(3, what), last[what]);
        }
    }

    static void promise10_usesOfTheFirstAtomAndActAlone() {
        TestJudge j = Asked.told("tests b c;acts p q;let x=!b!c p!b!c;let y=b c q b c;let z=(!b!c p)*;");
        int[][] uses = {{1, 1, 1}, {8, 8, 2}, {15, 15, 1}};
        for (int p = 0; p < 3; p++) {
            for (int what = 0; what < 3; what++) {
                ASKED.given("uses(" + p + ", " + what + ")", j, j.uses(p, what), uses[p][what]);
            }
        }
    }

    static void promise10_usesOfAStringsEndFarBehind() {
        TestJudge j = Asked.told("tests b c d;acts p q r;let x=!b!c!d p b p c p d r b c d;");
        int[] uses = {1, 128, 5};
        for (int what = 0; what < 3; what++) {
            ASKED.given("uses(0, " + what + ")", j, j.uses(0, what), uses[what]);
        }
    }

    // ---- promise 11: count

    static void promise11_countOfLength0To12() {
        TestJudge j = Asked.told("tests b c d;acts p q r;let x=(p+q+r)*;");
        ASKED.denied("count(0, -1)", j, j.count(0, -1), 1);
        long all = 8;
        for (int n = 0; n <= 12; n++) {
            ASKED.given("count(0, " + n + ")", j, j.count(0, n), all);
            all *= 24;
        }
        ASKED.denied("count(0, 13)", j, j.count(0, 13), 1);
        ASKED.denied("count(0, least)", j, j.count(0, Integer.MIN_VALUE), 1);
        ASKED.denied("count(0, greatest)", j, j.count(0, Integer.MAX_VALUE), 1);
        ASKED.denied("count(1, 13)", j, j.count(1, 13), 1);
        ASKED.denied("count(1, 12)", j, j.count(1, 12), 2);
    }

    static void promise11_countWhereThereIsNone() {
        TestJudge j = Asked.told("tests b;acts p;let x=p p;let y=0;");
        for (int n = 0; n <= 12; n++) {
            ASKED.given("count(0, " + n + ")", j, j.count(0, n), n == 2 ? 8 : 0);
            ASKED.given("count(1, " + n + ")", j, j.count(1, n), 0);
        }
    }

    static void promise11_countOneAfterTheOtherStartsAnew() {
        TestJudge j = Asked.told("acts p q;let x=(p+q)*;let y=p;let z=q q;");
        for (int round = 0; round < 3; round++) {
            ASKED.given("count(0, 12)", j, j.count(0, 12), 4096);
            ASKED.given("count(1, 1)", j, j.count(1, 1), 1);
            ASKED.given("count(2, 2)", j, j.count(2, 2), 1);
            ASKED.given("count(0, 0)", j, j.count(0, 0), 1);
        }
    }

    // ---- promises 12, 13: least, greatest

    static void promise12_leastFrom0To5() {
        TestJudge j = Asked.told("acts p;let a=p*;let b=p p*;let c=b p;let d=c p;let e=d p;");
        for (int p = 0; p < 5; p++) {
            ASKED.given("least(" + p + ")", j, j.least(p), p);
        }
        ASKED.denied("least(5)", j, j.least(5), 2);
    }

    static void promise12_leastOfOneWithoutStrings() {
        TestJudge j = Asked.told("tests b;acts p;let x=0;let y=p b p;zero p b;");
        ASKED.denied("least(0)", j, j.least(0), 5);
        ASKED.denied("least(1): all are FORBIDDEN", j, j.least(1), 5);
        j.assume(0, false);
        ASKED.given("least(1)", j, j.least(1), 2);
    }

    static void promise13_greatestFrom0To5() {
        TestJudge j = Asked.told("acts p;let a=1;let b=1+p;let c=(b+p)p;let d=p p p;let e=p p p p;let f=p p p p p;");
        for (int p = 0; p < 6; p++) {
            ASKED.given("greatest(" + p + ")", j, j.greatest(p), p);
        }
        ASKED.denied("greatest(6)", j, j.greatest(6), 2);
    }

    static void promise13_greatestIsTheLongestNotTheShortestWay() {
        // Both ways meet in one REST; the longer one counts.
        TestJudge j = Asked.told("tests b;acts p q r;let x=p r+q q r;let y=(p+q p)b(p+q);let z=q+p(p+q p);");
        ASKED.given("greatest(0)", j, j.greatest(0), 3);
        ASKED.given("greatest(1)", j, j.greatest(1), 3);
        ASKED.given("greatest(2)", j, j.greatest(2), 3);
    }

    static void promise13_greatestWhereThereIsNoneOrNoGreatest() {
        TestJudge j = Asked.told("tests b;acts p q;let x=0;let y=p*;let z=p(q b)*;let w=(p 0)*;let v=(p b q!b)*p!b p;"
                + "let u=while b do p b end;");
        ASKED.denied("no string", j, j.greatest(0), 5);
        ASKED.denied("p*", j, j.greatest(1), 5);
        ASKED.denied("p (q b)*", j, j.greatest(2), 5);
        ASKED.given("(p 0)*", j, j.greatest(3), 0);
        ASKED.denied("(p b q !b)* p !b p", j, j.greatest(4), 5);
        ASKED.given("what goes round comes to no end", j, j.greatest(5), 0);
    }

    static void promise13_greatestWhereOneLetterAloneGoesRound() {
        TestJudge j = Asked.told("acts p;let x=p*;let y=p p*;let z=p p p p*;let w=p p p p(0 p)*;");
        for (int p = 0; p < 3; p++) {
            ASKED.denied("greatest(" + p + ")", j, j.greatest(p), 5);
        }
        ASKED.given("greatest(3)", j, j.greatest(3), 4);
        TestJudge k = Asked.told("tests b c d;acts p q r;let x=(!b!c!d p)*;let y=(b c d r)*;let z=(p(b c d r)*)q;");
        for (int p = 0; p < 3; p++) {
            ASKED.denied("greatest(" + p + ")", k, k.greatest(p), 5);
        }
    }

    static void promise13_greatestByAFact() {
        TestJudge j = Asked.told("tests b;acts p q;zero q p;let x=(p q)*;let y=(p p q)*(p+1);let z=p*;");
        ASKED.given("greatest(0)", j, j.greatest(0), 2);
        ASKED.given("greatest(1)", j, j.greatest(1), 3);
        ASKED.denied("greatest(2)", j, j.greatest(2), 5);
        j.assume(0, false);
        ASKED.denied("greatest(0), nothing forbidden", j, j.greatest(0), 5);
        // More than the weight: found by a search.
        TestJudge k = Asked.told("tests b c d;acts p;zero 1 p 1 p (!c+!d);let x=((b !c p+d !b p c (b+!c) p p (d+!c) p c b)*)*;");
        ASKED.given("greatest of weight 5", k, k.greatest(0), 6);
    }

    // ---- promise 14: first

    static void promise14_firstItsLengthAndEachPlace() {
        TestJudge j = Asked.told("tests b c d;acts p q r;let x=b c d;let y=b q c;let z=b c d r b c d p q p r;let w=p p p p p;");
        string(j, 0, 7);
        string(j, 1, 1, 1, 2);
        string(j, 2, 7, 2, 7, 0, 0, 1, 0, 0, 0, 2, 0);
        string(j, 3, 0, 0, 0, 0, 0, 0, 0, 0, 0, 0, 0);
    }

    static void promise14_firstWithKBelowNone() {
        TestJudge j = Asked.told("let x=1;let y=0;");
        for (int k : new int[] {-2, -3, Integer.MIN_VALUE}) {
            ASKED.denied("first(0, " + k + ")", j, j.first(0, k), 1);
            ASKED.denied("first(1, " + k + ")", j, j.first(1, k), 1);
            ASKED.denied("first(2, " + k + ")", j, j.first(2, k), 1);
        }
        ASKED.given("first(0, NONE)", j, j.first(0, NONE), 0);
        ASKED.given("first(0, 0)", j, j.first(0, 0), 0);
    }

    static void promise14_firstWithNotSoManyPlaces() {
        TestJudge j = Asked.told("tests b;acts p;let x=b;let y=b p b;let z=0;");
        for (int k : new int[] {1, 2, 3, Integer.MAX_VALUE - 1, Integer.MAX_VALUE}) {
            ASKED.denied("first(0, " + k + ")", j, j.first(0, k), 5);
        }
        ASKED.given("first(1, 2)", j, j.first(1, 2), 1);
        ASKED.denied("first(1, 3)", j, j.first(1, 3), 5);
        ASKED.denied("first(1, 4)", j, j.first(1, 4), 5);
        ASKED.denied("first(2, NONE)", j, j.first(2, NONE), 5);
        ASKED.denied("first(2, 0)", j, j.first(2, 0), 5);
        ASKED.denied("first(3, NONE)", j, j.first(3, NONE), 2);
    }
}
