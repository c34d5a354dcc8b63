import java.lang.reflect.Method;
import java.util.Set;
import java.util.TreeSet;

/**
 * For each call and each STATUS that the document tells with it: the call gives NONE, and nothing else that
 * can be seen has changed (promises 4 to 41). Where two of them hold, it is the first of those told.
 */
public final class RefusedEdgesTest {
    private static final Asked ASKED = new Asked("RefusedEdgesTest");
    private static final Edges EDGES = new Edges(ASKED);
    private static final int NONE = TestJudge.NONE;
    private static final int LEAST = Integer.MIN_VALUE;
    private static final int GREATEST = Integer.MAX_VALUE;
    private static final Class<?>[] ALL = {TextEdgesTest.class, FaultEdgesTest.class, StringEdgesTest.class,
        EquationEdgesTest.class, RestEdgesTest.class, WalkEdgesTest.class, ActionEdgesTest.class, RefusedEdgesTest.class};

    public static void main(String[] args) throws IllegalAccessException {
        covered();
        EDGES.run(RefusedEdgesTest.class);
    }

    /** Each of the 42 promises, and each part of the terms, has cases. */
    private static void covered() {
        Set<String> missing = new TreeSet<>();
        for (int promise = 1; promise <= 42; promise++) {
            missing.add((promise < 10 ? "promise0" : "promise") + promise);
        }
        missing.addAll(Set.of("terms1", "terms2", "terms3"));
        for (Class<?> cases : ALL) {
            for (Method method : cases.getDeclaredMethods()) {
                if (Edges.isCase(method)) {
                    missing.remove(method.getName().substring(0, method.getName().indexOf('_')));
                }
            }
        }
        ASKED.due("promises without a case " + missing, missing.size(), 0);
    }

    /** Of a judge with something of everything: two tests, two acts, two facts, five programs, a walk. */
    private static void rich(String call, int status, Edges.Call refused) {
        EDGES.refused(call + " of a rich one", Edges::rich, refused, status);
    }

    private static void fresh(String call, int status, Edges.Call refused) {
        EDGES.refused(call + " of a new one", Edges::empty, refused, status);
    }

    /** No such program: the first one that is not there, and one below 0. */
    private interface Of {
        long program(TestJudge judge, int program);
    }

    private static void noProgram(String call, Of of) {
        for (int program : new int[] {5, -1, 8, GREATEST, LEAST}) {
            rich(call + " of " + program, 2, j -> of.program(j, program));
        }
        fresh(call, 2, j -> of.program(j, 0));
        fresh(call, 2, j -> of.program(j, -1));
    }

    private static void badNumber(String call, Of of, int... numbers) {
        for (int number : numbers) {
            rich(call + " with " + number, 1, j -> of.program(j, number));
            fresh(call + " with " + number, 1, j -> of.program(j, number));
        }
    }

    static void promise04_load1() {
        badNumber("load()", TestJudge::load, -1, 21, 501, LEAST, GREATEST);
        fresh("load(1)", 1, j -> j.load(1));
    }

    static void promise04_load9() {
        // Told of a judge whose tape is empty and whose latest fault is the same.
        EDGES.refused("load()", Edges::withoutTape, j -> Asked.load(j, "tests if;"), 9);
        EDGES.refused("load() of a new one", j -> Asked.load(j, "tests b c d;acts p q;let x="),
                j -> Asked.load(j, "tests b;acts p q;let abc=b+"), 9);
    }

    static void promise06_many1() {
        badNumber("many()", TestJudge::many, -1, 8, LEAST, GREATEST);
    }

    static void promise07_program1() {
        badNumber("program(0, ..)", (j, n) -> j.program(0, n), -1, 2, LEAST, GREATEST);
        badNumber("program(5, ..): ahead of 2", (j, n) -> j.program(5, n), -1, 2);
    }

    static void promise07_program2() {
        noProgram("program(.., 0)", (j, p) -> j.program(p, 0));
        noProgram("program(.., 1)", (j, p) -> j.program(p, 1));
    }

    static void promise08_fact1() {
        badNumber("fact(0, ..)", (j, n) -> j.fact(0, n), -1, 2, LEAST, GREATEST);
        badNumber("fact(2, ..): ahead of 2", (j, n) -> j.fact(2, n), -1, 2);
    }

    static void promise08_fact2() {
        for (int fact : new int[] {2, -1, 31, 32, GREATEST, LEAST}) {
            rich("fact(" + fact + ", 0)", 2, j -> j.fact(fact, 0));
            rich("fact(" + fact + ", 1)", 2, j -> j.fact(fact, 1));
        }
        fresh("fact(0, 0)", 2, j -> j.fact(0, 0));
        fresh("fact(0, 1)", 2, j -> j.fact(0, 1));
    }

    static void promise09_atoms2() {
        noProgram("atoms()", TestJudge::atoms);
    }

    static void promise10_uses1() {
        badNumber("uses(0, ..)", (j, n) -> j.uses(0, n), -1, 3, LEAST, GREATEST);
        badNumber("uses(5, ..): ahead of 2", (j, n) -> j.uses(5, n), -1, 3);
    }

    static void promise10_uses2() {
        for (int what = 0; what < 3; what++) {
            int asked = what;
            noProgram("uses(.., " + what + ")", (j, p) -> j.uses(p, asked));
        }
    }

    static void promise11_count1() {
        badNumber("count(0, ..)", (j, n) -> j.count(0, n), -1, 13, LEAST, GREATEST);
        badNumber("count(5, ..): ahead of 2", (j, n) -> j.count(5, n), -1, 13);
    }

    static void promise11_count2() {
        noProgram("count(.., 0)", (j, p) -> j.count(p, 0));
        noProgram("count(.., 12)", (j, p) -> j.count(p, 12));
    }

    static void promise12_least2And5() {
        noProgram("least()", TestJudge::least);
        rich("least(2): no string", 5, j -> j.least(2));
    }

    static void promise13_greatest2And5() {
        noProgram("greatest()", TestJudge::greatest);
        rich("greatest(2): no string", 5, j -> j.greatest(2));
        rich("greatest(1): no greatest", 5, j -> j.greatest(1));
    }

    static void promise14_first1() {
        badNumber("first(0, ..)", (j, n) -> j.first(0, n), -2, LEAST);
        badNumber("first(5, ..): ahead of 2", (j, n) -> j.first(5, n), -2);
        badNumber("first(2, ..): ahead of 5", (j, n) -> j.first(2, n), -2);
    }

    static void promise14_first2And5() {
        noProgram("first(.., NONE)", (j, p) -> j.first(p, NONE));
        noProgram("first(.., greatest): ahead of 5", (j, p) -> j.first(p, GREATEST));
        rich("first(2, NONE): no string", 5, j -> j.first(2, NONE));
        rich("first(2, 0): no string", 5, j -> j.first(2, 0));
        rich("first(0, 3): not so many places", 5, j -> j.first(0, 3));
        rich("first(0, greatest)", 5, j -> j.first(0, GREATEST));
        rich("first(1, 1)", 5, j -> j.first(1, 1));
    }

    static void promise15_equal2() {
        noProgram("equal(.., 0)", (j, p) -> j.equal(p, 0));
        noProgram("equal(0, ..)", (j, p) -> j.equal(0, p));
        noProgram("equal() with itself", (j, p) -> j.equal(p, p));
    }

    static void promise16_within2() {
        noProgram("within(.., 0)", (j, p) -> j.within(p, 0));
        noProgram("within(0, ..)", (j, p) -> j.within(0, p));
        noProgram("within() with itself", (j, p) -> j.within(p, p));
    }

    static void promise17_telling1() {
        badNumber("telling(0, 1, ..)", (j, n) -> j.telling(0, 1, n), -2, LEAST);
        badNumber("telling(5, 1, ..): ahead of 2", (j, n) -> j.telling(5, 1, n), -2);
        badNumber("telling(0, 0, ..): ahead of 5", (j, n) -> j.telling(0, 0, n), -2);
    }

    static void promise17_telling2And5() {
        noProgram("telling(.., 0, NONE)", (j, p) -> j.telling(p, 0, NONE));
        noProgram("telling(0, .., NONE)", (j, p) -> j.telling(0, p, NONE));
        noProgram("telling() with itself: ahead of 5", (j, p) -> j.telling(p, p, GREATEST));
        rich("telling(0, 0, NONE): they are EQUAL", 5, j -> j.telling(0, 0, NONE));
        rich("telling(3, 3, 0): they are EQUAL", 5, j -> j.telling(3, 3, 0));
        rich("telling(0, 2, 3): not so many places", 5, j -> j.telling(0, 2, 3));
        rich("telling(2, 0, greatest)", 5, j -> j.telling(2, 0, GREATEST));
    }

    static void promise18_whose2And5() {
        noProgram("whose(.., 0)", (j, p) -> j.whose(p, 0));
        noProgram("whose(0, ..)", (j, p) -> j.whose(0, p));
        noProgram("whose() with itself: ahead of 5", (j, p) -> j.whose(p, p));
        rich("whose(1, 1): they are EQUAL", 5, j -> j.whose(1, 1));
    }

    static void promise19_same2() {
        noProgram("same()", TestJudge::same);
    }

    static void promise20_kindsIsNeverRefused() {
        ASKED.given("kinds() of a new one", new TestJudge(), new TestJudge().kinds(), 0);
        TestJudge j = new TestJudge();
        Edges.rich(j);
        ASKED.given("kinds()", j, j.kinds(), 5);
    }

    private static void heavy(TestJudge judge) {
        Asked.load(judge, "tests b;acts p q;let x=p q p q;let y=p q p;let z=p*;zero p b q;");
        judge.assume(0, false);
        judge.make(2, 1, 0, 0);
        Edges.dress(judge, 2, 0);
        Edges.tape(judge);
    }

    static void promise21_swaps2And3() {
        noProgram("swaps(.., 0)", (j, p) -> j.swaps(p, 0));
        noProgram("swaps(0, ..)", (j, p) -> j.swaps(0, p));
        EDGES.refused("swaps(0, 1) of weight 7", RefusedEdgesTest::heavy, j -> j.swaps(0, 1), 3);
        EDGES.refused("swaps(3, 0) of weight 7", RefusedEdgesTest::heavy, j -> j.swaps(3, 0), 3);
        EDGES.refused("swaps(0, 0) of weight 8", RefusedEdgesTest::heavy, j -> j.swaps(0, 0), 3);
        EDGES.refused("swaps(0, 4): 2 ahead of 3", RefusedEdgesTest::heavy, j -> j.swaps(0, 4), 2);
    }

    static void promise22_both1() {
        badNumber("both(0, 1, ..)", (j, n) -> j.both(0, 1, n), -1, 13, LEAST, GREATEST);
        badNumber("both(5, 0, ..): ahead of 2", (j, n) -> j.both(5, 0, n), -1, 13);
    }

    static void promise22_both2() {
        noProgram("both(.., 0, 12)", (j, p) -> j.both(p, 0, 12));
        noProgram("both(0, .., 0)", (j, p) -> j.both(0, p, 0));
    }

    static void promise23_rests2() {
        noProgram("rests()", TestJudge::rests);
    }

    private static void noRest(String call, Of of) {
        for (int k : new int[] {2, -1, GREATEST, LEAST}) {
            rich(call + " of REST " + k, 5, j -> of.program(j, k));
        }
    }

    static void promise24_rest2And5() {
        noProgram("rest(.., 0)", (j, p) -> j.rest(p, 0));
        noProgram("rest(.., -1): ahead of 5", (j, p) -> j.rest(p, -1));
        noRest("rest(0, ..)", (j, k) -> j.rest(0, k));
        rich("rest(2, 0): no REST", 5, j -> j.rest(2, 0));
    }

    static void promise25_next2() {
        noProgram("next(.., 0, 0, 0)", (j, p) -> j.next(p, 0, 0, 0));
        for (int atom : new int[] {4, -1, 8, LEAST, GREATEST}) {
            rich("next(0, 0, " + atom + ", 0)", 2, j -> j.next(0, 0, atom, 0));
            rich("next(0, 9, " + atom + ", 0): ahead of 5", 2, j -> j.next(0, 9, atom, 0));
        }
        for (int act : new int[] {2, -1, 3, LEAST, GREATEST}) {
            rich("next(0, 0, 1, " + act + ")", 2, j -> j.next(0, 0, 1, act));
            rich("next(2, 0, 1, " + act + "): ahead of 5", 2, j -> j.next(2, 0, 1, act));
        }
    }

    static void promise25_next5() {
        noRest("next(0, .., 1, 0)", (j, k) -> j.next(0, k, 1, 0));
        rich("next(2, 0, 0, 0): no REST", 5, j -> j.next(2, 0, 0, 0));
        rich("next(0, 0, 0, 0): it is empty", 5, j -> j.next(0, 0, 0, 0));
        rich("next(0, 1, 1, 0): it is empty", 5, j -> j.next(0, 1, 1, 0));
        rich("next(1, 0, 3, 0): FORBIDDEN", 5, j -> j.next(1, 0, 3, 0));
    }

    static void promise26_clear2() {
        noProgram("clear()", TestJudge::clear);
    }

    static void promise27_far2And5() {
        noProgram("far(.., 0)", (j, p) -> j.far(p, 0));
        noProgram("far(.., -1): ahead of 5", (j, p) -> j.far(p, -1));
        noRest("far(0, ..)", (j, k) -> j.far(0, k));
        rich("far(2, 0): no REST", 5, j -> j.far(2, 0));
    }

    static void promise28_right1And2() {
        int[] others = {16, -1, 31, LEAST, GREATEST};
        badNumber("right(.., 0, 0)", (j, n) -> j.right(n, 0, 0), others);
        badNumber("right(0, 0, ..)", (j, n) -> j.right(0, 0, n), others);
        badNumber("right(.., 5, 0): ahead of 2", (j, n) -> j.right(n, 5, 0), 16);
        noProgram("right(0, .., 0)", (j, p) -> j.right(0, p, 0));
    }

    static void promise29_weakest1And2() {
        badNumber("weakest(0, ..)", (j, n) -> j.weakest(0, n), 16, -1, 31, LEAST, GREATEST);
        badNumber("weakest(5, ..): ahead of 2", (j, n) -> j.weakest(5, n), 16);
        noProgram("weakest(.., 0)", (j, p) -> j.weakest(p, 0));
    }

    static void promise30_strongest1And2() {
        badNumber("strongest(.., 0)", (j, n) -> j.strongest(n, 0), 16, -1, 31, LEAST, GREATEST);
        badNumber("strongest(.., 5): ahead of 2", (j, n) -> j.strongest(n, 5), 16);
        noProgram("strongest(0, ..)", (j, p) -> j.strongest(0, p));
    }

    static void promise31_keeps1And2() {
        badNumber("keeps(0, ..)", (j, n) -> j.keeps(0, n), 16, -1, 31, LEAST, GREATEST);
        badNumber("keeps(5, ..): ahead of 2", (j, n) -> j.keeps(5, n), 16);
        noProgram("keeps(.., 0)", (j, p) -> j.keeps(p, 0));
    }

    static void promise32_needs2And5() {
        noProgram("needs(.., 0)", (j, p) -> j.needs(p, 0));
        noProgram("needs(0, ..)", (j, p) -> j.needs(0, p));
        rich("needs(0, 2): they are not EQUAL", 5, j -> j.needs(0, 2));
        rich("needs(3, 2): EQUAL by what is not ASSUMED", 5, j -> j.needs(3, 2));
    }

    static void promise33_fewest2And5() {
        noProgram("fewest(.., 0)", (j, p) -> j.fewest(p, 0));
        noProgram("fewest(0, ..)", (j, p) -> j.fewest(0, p));
        rich("fewest(0, 2): by none", 5, j -> j.fewest(0, 2));
    }

    static void promise33_fewestAssumesNothing() {
        EDGES.alike("fewest(3, 2)", j -> {
            Edges.rich(j);
            ASKED.given("fewest(3, 2)", j, j.fewest(3, 2), 1);
        }, Edges::rich);
    }

    static void promise34_walk2And5() {
        noProgram("walk()", TestJudge::walk);
        rich("walk(2): none", 5, j -> j.walk(2));
    }

    static void promise35_step2And5() {
        for (int atom : new int[] {4, -1, 8, LEAST, GREATEST}) {
            rich("step(" + atom + ", 0)", 2, j -> j.step(atom, 0));
        }
        for (int act : new int[] {2, -1, 3, LEAST, GREATEST}) {
            rich("step(0, " + act + ")", 2, j -> j.step(0, act));
        }
        fresh("step(0, 0): no ACT", 2, j -> j.step(0, 0));
        rich("step(3, 0): nothing is left", 5, j -> j.step(3, 0));
        EDGES.refused("step(0, 0) without a WALK", RefusedEdgesTest::noWalk, j -> j.step(0, 0), 5);
        EDGES.refused("step(4, 0) without a WALK", RefusedEdgesTest::noWalk, j -> j.step(4, 0), 2);
    }

    private static void noWalk(TestJudge judge) {
        Edges.rich(judge);
        judge.undo();
    }

    static void promise36_walked1And5() {
        badNumber("walked()", TestJudge::walked, -1, 4, LEAST, GREATEST);
        for (int what = 0; what < 4; what++) {
            int asked = what;
            fresh("walked(" + what + ")", 5, j -> j.walked(asked));
            EDGES.refused("walked(" + what + ") without a WALK", RefusedEdgesTest::noWalk, j -> j.walked(asked), 5);
        }
    }

    static void promise37_make1() {
        badNumber("make(.., 0, 0, 0)", (j, n) -> j.make(n, 0, 0, 0), -1, 5, LEAST, GREATEST);
        badNumber("make(.., 5, 5, 2): ahead of 2", (j, n) -> j.make(n, 5, 5, 2), -1, 5);
    }

    static void promise37_make2() {
        for (int how = 0; how < 5; how++) {
            int asked = how;
            noProgram("make(" + how + ", .., 0, 0)", (j, p) -> j.make(asked, p, 0, 0));
            noProgram("make(" + how + ", 0, .., 0)", (j, p) -> j.make(asked, 0, p, 0));
        }
        for (int test : new int[] {2, -1, 3, LEAST, GREATEST}) {
            rich("make(3, 0, 0, " + test + ")", 2, j -> j.make(3, 0, 0, test));
            rich("make(4, 0, 0, " + test + ")", 2, j -> j.make(4, 0, 0, test));
        }
    }

    private static void eight(TestJudge judge) {
        Edges.withoutTape(judge);
        judge.make(2, 0, 0, 0);
        judge.make(0, 2, 2, 0);
        judge.make(4, 0, 0, 1);
        Edges.dress(judge, 0, 1);
        Edges.tape(judge);
    }

    static void promise37_make3ThereAre8() {
        for (int how = 0; how < 5; how++) {
            int asked = how;
            EDGES.refused("make(" + how + ", 2, 2, 0)", RefusedEdgesTest::eight, j -> j.make(asked, 2, 2, 0), 3);
            EDGES.refused("make(" + how + ", 8, 2, 0): 2 ahead of 3", RefusedEdgesTest::eight,
                    j -> j.make(asked, 8, 2, 0), 2);
        }
        EDGES.refused("make(3, 2, 2, 2): 2 ahead of 3", RefusedEdgesTest::eight, j -> j.make(3, 2, 2, 2), 2);
        EDGES.refused("make(5, 2, 2, 0): 1 ahead of 3", RefusedEdgesTest::eight, j -> j.make(5, 2, 2, 0), 1);
    }

    static void promise37_make3ItsWeightIsAbove5() {
        for (int how : new int[] {0, 1, 3}) {
            EDGES.refused("make(" + how + ", 0, 1, 0)", RefusedEdgesTest::heavy, j -> j.make(how, 0, 1, 0), 3);
            EDGES.refused("make(" + how + ", 3, 3, 0)", RefusedEdgesTest::heavy, j -> j.make(how, 3, 3, 0), 3);
        }
    }

    private static void layered(TestJudge judge) {
        Asked.load(judge, "tests b;acts p;let x=b;");
        for (int i = 0; i < 6; i++) {
            judge.make(2, i, 0, 0);
        }
        Edges.dress(judge, 0, 1);
        Edges.tape(judge);
    }

    static void promise37_make3ItWouldHave7Layers() {
        for (int how = 0; how < 5; how++) {
            int asked = how;
            EDGES.refused("make(" + how + ", 6, 0, 0)", RefusedEdgesTest::layered, j -> j.make(asked, 6, 0, 0), 3);
            if (how != 2 && how != 4) {
                EDGES.refused("make(" + how + ", 0, 6, 0)", RefusedEdgesTest::layered, j -> j.make(asked, 0, 6, 0), 3);
            }
        }
    }

    static void promise38_drop2() {
        noProgram("drop()", TestJudge::drop);
    }

    static void promise39_assume2And4() {
        for (int fact : new int[] {2, -1, 31, 32, 33, LEAST, GREATEST}) {
            rich("assume(" + fact + ", true)", 2, j -> j.assume(fact, true));
            rich("assume(" + fact + ", false)", 2, j -> j.assume(fact, false));
        }
        fresh("assume(0, true)", 2, j -> j.assume(0, true));
        fresh("assume(0, false)", 2, j -> j.assume(0, false));
        rich("assume(0, false): it is so already", 4, j -> j.assume(0, false));
        rich("assume(1, true): it is so already", 4, j -> j.assume(1, true));
    }

    static void promise40_undo5() {
        fresh("undo()", 5, TestJudge::undo);
        EDGES.refused("undo() of all that were kept", j -> {
            Edges.withoutTape(j);
            j.undo();
            j.undo();
            j.undo();
            Edges.dress(j, 0, 1);
            Edges.tape(j);
        }, TestJudge::undo, 5);
    }

    static void promise41_print2And3() {
        noProgram("print()", TestJudge::print);
        EDGES.refused("print(0) of 61 RESTS", j -> {
            Asked.load(j, "tests b c d;acts p;zero c p (c+!d b) p (b+!d);let x=(p p p p+!d p !c)*;let y=d;");
            j.make(2, 1, 0, 0);
            Edges.dress(j, 1, 0);
            Edges.tape(j);
        }, j -> j.print(0), 3);
    }

    static void promise42_outThrows() {
        String table = "0:0 1a1;1:7;";
        TestJudge j = new TestJudge();
        Edges.rich(j);
        for (int i = 0; i < table.length(); i++) {
            ASKED.due("out(" + i + ")", j.out(i), table.charAt(i));
        }
        for (int i : new int[] {-1, table.length(), 9999, GREATEST, LEAST}) {
            EDGES.thrown("out(" + i + ") of a rich one", Edges::rich, i);
        }
        EDGES.thrown("out(0) of a new one", Edges::empty, 0);
    }

    // ---- ==== 3: what STATUS says

    static void terms3_anotherStatusThan0GivesNone() {
        TestJudge j = new TestJudge();
        Edges.rich(j);
        ASKED.denied("1", j, j.many(8), 1);
        ASKED.denied("2", j, j.count(5, 0), 2);
        ASKED.denied("4", j, j.assume(1, true), 4);
        ASKED.denied("5", j, j.least(2), 5);
        ASKED.denied("9", j, j.load(13), 9);
        for (int i = 0; i < 3; i++) {
            j.make(0, 0, 0, 0);
        }
        ASKED.denied("3", j, j.make(0, 0, 0, 0), 3);
    }

    /** Behind a call with another STATUS, one that is fine has 0. */
    private static void fine(String call, int status, Edges.Call asked) {
        TestJudge j = new TestJudge();
        Edges.rich(j);
        if (status == 1) {
            j.many(8);
        } else {
            j.atoms(5);
        }
        ASKED.due(call + ": the one ahead of it", j.status(), status);
        long answer = asked.on(j);
        ASKED.due(call + ": an answer", answer >= 0 ? 1 : 0, 1);
        ASKED.due(call + ": its status", j.status(), 0);
    }

    private interface Visitor {
        void on(String call, Edges.Call asked);
    }

    /** All calls that ask, each so that a rich one has an answer. */
    private static void asking(Visitor visitor) {
        for (int i = 0; i < 8; i++) {
            int what = i;
            visitor.on("many(" + i + ")", j -> j.many(what));
        }
        for (int i = 0; i < 2; i++) {
            int what = i;
            visitor.on("program(0, " + i + ")", j -> j.program(0, what));
            visitor.on("fact(0, " + i + ")", j -> j.fact(0, what));
        }
        for (int i = 0; i < 3; i++) {
            int what = i;
            visitor.on("uses(0, " + i + ")", j -> j.uses(0, what));
        }
        for (int i = 0; i < 4; i++) {
            int what = i;
            visitor.on("walked(" + i + ")", j -> j.walked(what));
        }
        visitor.on("atoms()", j -> j.atoms(0));
        visitor.on("count()", j -> j.count(0, 0));
        visitor.on("least()", j -> j.least(0));
        visitor.on("greatest()", j -> j.greatest(0));
        visitor.on("first(0, NONE)", j -> j.first(0, NONE));
        visitor.on("first(0, 0)", j -> j.first(0, 0));
        askingOfTwo(visitor);
        visitor.on("rests()", j -> j.rests(2));
        visitor.on("rest()", j -> j.rest(0, 0));
        visitor.on("next()", j -> j.next(0, 0, 1, 0));
        visitor.on("clear()", j -> j.clear(0));
        visitor.on("far()", j -> j.far(0, 0));
        visitor.on("right()", j -> j.right(0, 0, 0));
        visitor.on("weakest()", j -> j.weakest(0, 0));
        visitor.on("strongest()", j -> j.strongest(0, 0));
        visitor.on("keeps()", j -> j.keeps(0, 0));
    }

    private static void askingOfTwo(Visitor visitor) {
        visitor.on("equal()", j -> j.equal(0, 1));
        visitor.on("within()", j -> j.within(0, 1));
        visitor.on("telling(0, 1, NONE)", j -> j.telling(0, 1, NONE));
        visitor.on("telling(0, 1, 0)", j -> j.telling(0, 1, 0));
        visitor.on("whose()", j -> j.whose(0, 1));
        visitor.on("same()", j -> j.same(0));
        visitor.on("kinds()", TestJudge::kinds);
        visitor.on("swaps()", j -> j.swaps(0, 1));
        visitor.on("both()", j -> j.both(0, 1, 0));
        visitor.on("needs()", j -> j.needs(0, 0));
        visitor.on("fewest()", j -> j.fewest(0, 0));
    }

    private static void acting(Visitor visitor) {
        visitor.on("load()", j -> j.load(0));
        visitor.on("walk()", j -> j.walk(0));
        visitor.on("step()", j -> j.step(0, 0));
        visitor.on("make()", j -> j.make(0, 0, 0, 0));
        visitor.on("drop()", j -> j.drop(0));
        visitor.on("assume()", j -> j.assume(0, true));
        visitor.on("undo()", TestJudge::undo);
        visitor.on("print()", j -> j.print(2));
    }

    static void terms3_status0BehindEachCallThatIsFine() {
        for (int status = 1; status <= 2; status++) {
            int ahead = status;
            asking((call, asked) -> fine(call, ahead, asked));
            acting((call, asked) -> fine(call, ahead, asked));
        }
    }

    static void terms3_askingChangesNothing() {
        asking((call, asked) -> EDGES.alike(call, j -> {
            Edges.rich(j);
            asked.on(j);
        }, Edges::rich));
    }

    static void terms3_theFirstThatHolds() {
        TestJudge j = new TestJudge();
        Edges.rich(j);
        ASKED.denied("1 ahead of 2", j, j.count(5, 13), 1);
        ASKED.denied("1 ahead of 2, of sets", j, j.right(16, 5, 0), 1);
        ASKED.denied("1 ahead of 5", j, j.first(2, -2), 1);
        ASKED.denied("1 ahead of 2 and 3", j, j.make(5, 5, 5, 5), 1);
        ASKED.denied("2 ahead of 4", j, j.assume(2, false), 2);
        ASKED.denied("2 ahead of 5", j, j.rest(5, 9), 2);
        j.undo();
        ASKED.denied("1 ahead of 5", j, j.walked(4), 1);
        ASKED.denied("2 ahead of 5", j, j.step(4, 0), 2);
    }
}
