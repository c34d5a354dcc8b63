/** Boundary cases of promises 32 to 36: what facts are good for, walks. */
public final class WalkEdgesTest {
    private static final Asked ASKED = new Asked("WalkEdgesTest");
    private static final Edges EDGES = new Edges(ASKED);

    public static void main(String[] args) throws IllegalAccessException {
        EDGES.run(WalkEdgesTest.class);
    }

    private static void walked(TestJudge j, int program, int acts, int rest, int ends) {
        ASKED.given("walked(0)", j, j.walked(0), program);
        ASKED.given("walked(1)", j, j.walked(1), acts);
        ASKED.given("walked(2)", j, j.walked(2), rest);
        ASKED.given("walked(3)", j, j.walked(3), ends);
    }

    private static void noWalk(TestJudge j) {
        for (int what = 0; what < 4; what++) {
            ASKED.denied("walked(" + what + ")", j, j.walked(what), 5);
        }
        ASKED.denied("step(0, 0)", j, j.step(0, 0), 5);
    }

    // ---- promise 32: needs

    static void promise32_needsWithoutFacts() {
        TestJudge j = Asked.told("tests b;acts p;let x=p;let y=p+p;let z=0;");
        ASKED.given("needs(0, 1)", j, j.needs(0, 1), 0);
        ASKED.given("needs(0, 0)", j, j.needs(0, 0), 0);
        ASKED.denied("needs(0, 2)", j, j.needs(0, 2), 5);
        ASKED.denied("needs(0, 3)", j, j.needs(0, 3), 2);
        ASKED.denied("needs(-1, 0)", j, j.needs(-1, 0), 2);
    }

    static void promise32_needsNoneEachAndBoth() {
        TestJudge j = Asked.told("tests b;acts p;zero b p b;zero b p!b;let x=b p b;let y=b p!b;let z=b p;let w=0;let v=0 p;");
        ASKED.given("needs(0, 3)", j, j.needs(0, 3), 1);
        ASKED.given("needs(1, 3)", j, j.needs(1, 3), 2);
        ASKED.given("needs(2, 3)", j, j.needs(2, 3), 3);
        ASKED.given("needs(0, 1)", j, j.needs(0, 1), 3);
        ASKED.given("needs(4, 3)", j, j.needs(4, 3), 0);
    }

    static void promise32_needsNeitherWhereEitherWouldDo() {
        TestJudge j = Asked.told("tests b;acts p;zero b p;zero b;let x=b p;let y=0;");
        ASKED.given("needs(0, 1)", j, j.needs(0, 1), 0);
        j.assume(0, false);
        ASKED.given("needs(0, 1), the second left", j, j.needs(0, 1), 2);
        j.assume(0, true);
        j.assume(1, false);
        ASKED.given("needs(0, 1), the first left", j, j.needs(0, 1), 1);
        j.assume(0, false);
        ASKED.denied("needs(0, 1), none left", j, j.needs(0, 1), 5);
    }

    static void promise32_needsOfThoseAssumedAlone() {
        TestJudge j = Asked.told("tests b;zero b;zero!b;let x=b;let y=0;let z=!b;");
        j.assume(1, false);
        ASKED.given("needs(0, 1)", j, j.needs(0, 1), 1);
        ASKED.denied("needs(1, 2): that FACT is not ASSUMED", j, j.needs(1, 2), 5);
        ASKED.given("many(5) stays", j, j.many(5), 1);
    }

    // ---- promise 33: fewest

    static void promise33_fewestWithoutFacts() {
        TestJudge j = Asked.told("tests b;acts p;let x=p;let y=p+p;let z=0;");
        ASKED.given("fewest(0, 1)", j, j.fewest(0, 1), 0);
        ASKED.denied("fewest(0, 2)", j, j.fewest(0, 2), 5);
        ASKED.denied("fewest(0, 3)", j, j.fewest(0, 3), 2);
        ASKED.denied("fewest(-1, 0)", j, j.fewest(-1, 0), 2);
    }

    static void promise33_fewestOfEachSize() {
        for (int set = 0; set < 4; set++) {
            TestJudge j = Asked.told("tests b;acts p;zero b p b;zero b p!b;let x=b p b;let y=b p!b;let z=b p;let w=0;"
                    + "let v=p;");
            for (int f = 0; f < 2; f++) {
                if ((set >> f & 1) == 0) {
                    j.assume(f, false);
                }
            }
            ASKED.given("fewest(3, 3)", j, j.fewest(3, 3), 0);
            ASKED.given("fewest(0, 3)", j, j.fewest(0, 3), 1);
            ASKED.given("fewest(1, 3)", j, j.fewest(1, 3), 2);
            ASKED.given("fewest(2, 3)", j, j.fewest(2, 3), 3);
            ASKED.denied("fewest(4, 3)", j, j.fewest(4, 3), 5);
            ASKED.given("whatever is ASSUMED", j, j.many(5), set);
        }
    }

    static void promise33_fewestOfSeveralTheLeast() {
        TestJudge j = Asked.told("tests b;acts p;zero b p;zero b;let x=b p;let y=0;let z=b;");
        ASKED.given("fewest(0, 1): either would do", j, j.fewest(0, 1), 1);
        ASKED.given("fewest(2, 1)", j, j.fewest(2, 1), 2);
        j.assume(0, false);
        ASKED.given("fewest(0, 1), though not ASSUMED", j, j.fewest(0, 1), 1);
    }

    static void promise33_fewestIsOneThoughBothAreEqualByTwo() {
        // One alone is fewer than both, be it the second.
        TestJudge j = Asked.told("tests b c;zero b c;zero b+c;let x=b;let y=0;");
        ASKED.given("fewest(0, 1)", j, j.fewest(0, 1), 2);
    }

    // ---- promise 34: walk

    static void promise34_walkBeginsBehindNoPart() {
        TestJudge j = Asked.told("tests b;acts p q;let x=b;let y=p q b+q q b;let z=0;");
        noWalk(j);
        ASKED.given("walk(0)", j, j.walk(0), 1);
        walked(j, 0, 0, 0, 2);
        ASKED.given("walk(1)", j, j.walk(1), 3);
        walked(j, 1, 0, 0, 0);
    }

    static void promise34_walkWhereThereIsNone() {
        TestJudge j = Asked.told("tests b;acts p;let x=0;let y=p*;let z=b;zero b;");
        ASKED.denied("walk(0)", j, j.walk(0), 5);
        noWalk(j);
        ASKED.denied("walk(2): all are FORBIDDEN", j, j.walk(2), 5);
        ASKED.denied("walk(3)", j, j.walk(3), 2);
        ASKED.denied("walk(-1)", j, j.walk(-1), 2);
        j.walk(1);
        j.step(0, 0);
        ASKED.denied("walk(0)", j, j.walk(0), 5);
        ASKED.denied("walk(3)", j, j.walk(3), 2);
        walked(j, 1, 1, 0, 1);
    }

    static void promise34_walkBeginsAnew() {
        TestJudge j = Asked.told("acts p;let x=p p;");
        j.walk(0);
        j.step(0, 0);
        j.step(0, 0);
        walked(j, 0, 2, 2, 1);
        ASKED.given("walk(0)", j, j.walk(0), 3);
        walked(j, 0, 0, 0, 0);
    }

    // ---- promise 35: step

    static void promise35_stepAsLongAsSomethingIsLeft() {
        TestJudge j = Asked.told("tests b;acts p q;let x=p b q;");
        j.walk(0);
        ASKED.denied("by another ACT", j, j.step(0, 1), 5);
        walked(j, 0, 0, 0, 0);
        ASKED.given("step(1, 0)", j, j.step(1, 0), 1);
        ASKED.denied("with another ATOM", j, j.step(0, 1), 5);
        walked(j, 0, 1, 1, 0);
        ASKED.given("step(1, 1)", j, j.step(1, 1), 2);
        walked(j, 0, 2, 2, 3);
        for (int i = 0; i < 4; i++) {
            ASKED.denied("nothing is left behind it", j, j.step(i / 2, i % 2), 5);
        }
        walked(j, 0, 2, 2, 3);
    }

    static void promise35_stepByNoSuchAtomOrAct() {
        TestJudge j = Asked.told("tests b;acts p q;let x=(p+q)*;");
        int[][] wrong = {{2, 0}, {-1, 0}, {0, 2}, {0, -1}, {Integer.MAX_VALUE, 0}, {0, Integer.MIN_VALUE}, {7, 2}};
        for (int[] letter : wrong) {
            ASKED.denied("step() without a WALK", j, j.step(letter[0], letter[1]), 2);
        }
        ASKED.denied("step(1, 1) without a WALK", j, j.step(1, 1), 5);
        j.walk(0);
        for (int[] letter : wrong) {
            ASKED.denied("step()", j, j.step(letter[0], letter[1]), 2);
        }
        walked(j, 0, 0, 0, 3);
        ASKED.given("step(1, 1)", j, j.step(1, 1), 0);
        walked(j, 0, 1, 0, 3);
    }

    static void promise35_stepOnAndOn() {
        TestJudge j = Asked.told("tests b;acts p;let x=(b p!b p)*;");
        j.walk(0);
        for (int i = 1; i <= 120; i++) {
            ASKED.given("step " + i, j, j.step(i % 2, 0), i % 2);
        }
        walked(j, 0, 120, 0, 3);
        ASKED.denied("step(0, 0)", j, j.step(0, 0), 5);
    }

    static void promise35_stepByWhatIsAssumedWhenTheWalkBegan() {
        TestJudge j = Asked.told("acts p q;zero p q;let x=(p+q)*;");
        ASKED.given("walk(0)", j, j.walk(0), 2);
        ASKED.given("step(0, 0)", j, j.step(0, 0), 1);
        ASKED.denied("step(0, 1)", j, j.step(0, 1), 5);
        j.assume(0, false);
        ASKED.given("walk(0)", j, j.walk(0), 1);
        ASKED.given("step(0, 0)", j, j.step(0, 0), 0);
        ASKED.given("step(0, 1)", j, j.step(0, 1), 0);
    }

    // ---- promise 36: walked

    static void promise36_walked0To3AndNoOther() {
        TestJudge j = Asked.told("acts p;let x=p*;");
        for (int what : new int[] {-1, 4, Integer.MIN_VALUE, Integer.MAX_VALUE}) {
            ASKED.denied("walked(" + what + ") without a WALK", j, j.walked(what), 1);
        }
        noWalk(j);
        j.walk(0);
        for (int what : new int[] {-1, 4, Integer.MIN_VALUE, Integer.MAX_VALUE}) {
            ASKED.denied("walked(" + what + ")", j, j.walked(what), 1);
        }
        walked(j, 0, 0, 0, 1);
    }

    static void promise36_walkedWithWhichItCanEnd() {
        TestJudge j = Asked.told("tests b c d;acts p q r;let x=p(1+q(b c d+r(!b!c!d+p 0+q)));");
        j.walk(0);
        int[] ends = {0, 255, 128, 1};
        int[] acts = {0, 1, 2};
        for (int n = 0; n < 4; n++) {
            walked(j, 0, n, n, ends[n]);
            if (n < 3) {
                ASKED.given("step", j, j.step(7, acts[n]), n + 1);
            }
        }
    }

    static void promise36_walkEndsWithEachAction() {
        TestJudge j = Asked.told("tests b;acts p;zero b p b;let x=p*;let y=p p p;");
        j.walk(0);
        j.make(0, 0, 0, 0);
        noWalk(j);
        j.walk(1);
        j.drop(0);
        noWalk(j);
        j.walk(0);
        j.assume(0, false);
        noWalk(j);
        j.walk(0);
        j.assume(0, true);
        noWalk(j);
        j.walk(0);
        j.undo();
        noWalk(j);
        j.walk(0);
        j.load(0);
        ASKED.denied("walked(0)", j, j.walked(0), 5);
        ASKED.denied("step(0, 0): no ACTS now", j, j.step(0, 0), 2);
    }

    static void promise36_walkGoesOnOverRefusedActions() {
        TestJudge j = Asked.told("tests b;acts p;zero b p b;let x=p*;let y=p p p;");
        j.walk(0);
        j.step(0, 0);
        ASKED.denied("undo()", j, j.undo(), 5);
        ASKED.denied("make(5, ..)", j, j.make(5, 0, 0, 0), 1);
        ASKED.denied("make(0, 2, ..)", j, j.make(0, 2, 0, 0), 2);
        ASKED.denied("make(0, 1, 1, 0)", j, j.make(0, 1, 1, 0), 3);
        ASKED.denied("drop(2)", j, j.drop(2), 2);
        ASKED.denied("assume(0, true)", j, j.assume(0, true), 4);
        ASKED.denied("assume(1, true)", j, j.assume(1, true), 2);
        ASKED.denied("load(1)", j, j.load(1), 1);
        ASKED.denied("load() with a fault", j, Asked.load(j, "?"), 9);
        walked(j, 0, 1, 0, 3);
        ASKED.given("step(1, 0)", j, j.step(1, 0), 1);
        walked(j, 0, 2, 1, 1);
    }

    static void promise35_stepRightBehindCallsAboutOthers() {
        TestJudge j = Asked.told("tests b;acts p q;let x=p q p b;let y=(p+q)*;let z=0;let w=q;");
        j.walk(0);
        j.rests(1);
        ASKED.given("step(0, 0) behind rests(1)", j, j.step(0, 0), 1);
        j.print(2);
        ASKED.given("step(0, 1) behind print(2)", j, j.step(0, 1), 2);
        j.greatest(3);
        ASKED.denied("step(0, 1) behind greatest(3)", j, j.step(0, 1), 5);
        j.rests(3);
        ASKED.given("step(0, 0) behind rests(3)", j, j.step(0, 0), 3);
        j.rests(1);
        ASKED.given("walked(3) behind rests(1)", j, j.walked(3), 2);
    }

    static void promise36_walkGoesOnOverOtherCalls() {
        TestJudge j = Asked.told("tests b;acts p q;zero 0;let x=p q b;let y=(p+q)*;let z=0;");
        j.walk(0);
        j.step(0, 0);
        j.rests(1);
        j.print(1);
        j.greatest(1);
        j.swaps(0, 1);
        j.needs(0, 0);
        j.fewest(0, 1);
        j.keeps(1, 3);
        j.count(1, 12);
        j.kinds();
        walked(j, 0, 1, 1, 0);
        ASKED.given("step(1, 1)", j, j.step(1, 1), 2);
        walked(j, 0, 2, 2, 2);
    }
}
