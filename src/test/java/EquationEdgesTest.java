/** Boundary cases of promises 15 to 22: equations between programs. */
public final class EquationEdgesTest {
    private static final Asked ASKED = new Asked("EquationEdgesTest");
    private static final Edges EDGES = new Edges(ASKED);
    private static final int NONE = TestJudge.NONE;

    public static void main(String[] args) throws IllegalAccessException {
        EDGES.run(EquationEdgesTest.class);
    }

    private static void telling(TestJudge j, int program, int other, int whose, int... places) {
        String call = "telling(" + program + ", " + other + ", ";
        ASKED.given(call + "NONE)", j, j.telling(program, other, NONE), places.length / 2);
        for (int k = 0; k < places.length; k++) {
            ASKED.given(call + k + ")", j, j.telling(program, other, k), places[k]);
        }
        ASKED.denied(call + "behind its last place)", j, j.telling(program, other, places.length), 5);
        ASKED.given("whose(" + program + ", " + other + ")", j, j.whose(program, other), whose);
        ASKED.given("whose(" + other + ", " + program + ")", j, j.whose(other, program), 1 - whose);
    }

    // ---- promises 15, 16: equal, within

    static void promise15_equalToItself() {
        TestJudge j = Asked.told("tests b;acts p;let x=0;let y=1;let z=p;let w=p*;");
        for (int p = 0; p < 4; p++) {
            for (int q = 0; q < 4; q++) {
                ASKED.given("equal(" + p + ", " + q + ")", j, j.equal(p, q), p == q ? 1 : 0);
            }
        }
    }

    static void promise15_equalWithoutAnyStrings() {
        TestJudge j = Asked.told("tests b;acts p;let x=0;let y=p 0;let z=b!b;let w=(p!b)p b;zero!b p b;");
        for (int p = 0; p < 4; p++) {
            for (int q = 0; q < 4; q++) {
                ASKED.given("equal(" + p + ", " + q + ")", j, j.equal(p, q), 1);
            }
        }
    }

    static void promise15_equalButForOneString() {
        TestJudge j = Asked.told("tests b c d;acts p q r;let x=p q r p q;let y=p q r p q(!b+!c+!d);"
                + "let z=(p+q+r)*;let w=(p+q+r)(p+q)*+1;zero b c d;");
        ASKED.given("the last ATOM is FORBIDDEN", j, j.equal(0, 1), 1);
        ASKED.given("r behind another one", j, j.equal(2, 3), 0);
        j.assume(0, false);
        ASKED.given("but for the last ATOM", j, j.equal(0, 1), 0);
    }

    static void promise15_equalSeenLate() {
        TestJudge j = Asked.told("acts p;let x=(p p p p p)*;let y=(p p p p)*;let z=(p p p)*;");
        // They have the LENGTHS that are none of 4, of 5 and of 3 apart at 4 and 3.
        telling(j, 0, 1, 1, 0, 0, 0, 0, 0, 0, 0, 0, 0);
        telling(j, 1, 2, 1, 0, 0, 0, 0, 0, 0, 0);
        ASKED.given("equal(0, 1)", j, j.equal(0, 1), 0);
    }

    static void promise15_equalByWhatIsAssumed() {
        TestJudge j = Asked.told("tests b;acts p;zero b p;let x=b p;let y=0;");
        ASKED.given("equal(0, 1)", j, j.equal(0, 1), 1);
        j.assume(0, false);
        ASKED.given("equal(0, 1), no more", j, j.equal(0, 1), 0);
        j.assume(0, true);
        ASKED.given("equal(0, 1), again", j, j.equal(0, 1), 1);
    }

    static void promise16_withinOfNoneAndAll() {
        TestJudge j = Asked.told("tests b;acts p q;let x=0;let y=(p+q)*;let z=b q p!b;");
        int[][] within = {{1, 1, 1}, {0, 1, 0}, {0, 1, 1}};
        for (int p = 0; p < 3; p++) {
            for (int q = 0; q < 3; q++) {
                ASKED.given("within(" + p + ", " + q + ")", j, j.within(p, q), within[p][q]);
            }
        }
    }

    static void promise16_withinButForOneString() {
        TestJudge j = Asked.told("tests b;acts p;let x=p p;let y=p p p*+b;let z=p p p+p b p;");
        ASKED.given("within(0, 1)", j, j.within(0, 1), 1);
        ASKED.given("within(1, 0)", j, j.within(1, 0), 0);
        ASKED.given("within(0, 2)", j, j.within(0, 2), 0);
    }

    static void promise16_withinThoughTheOtherHasShorterOnes() {
        // The first string that tells them apart is the other one's; it still has all of the first.
        TestJudge j = Asked.told("acts p;let x=p p;let y=1+p+p p;let z=1+p;");
        ASKED.given("within(0, 1)", j, j.within(0, 1), 1);
        ASKED.given("within(0, 2)", j, j.within(0, 2), 0);
        telling(j, 0, 1, 1, 0);
    }

    static void promise16_withinByWhatIsAssumed() {
        TestJudge j = Asked.told("tests b;acts p;zero b p!b;let x=b p;let y=b p b;");
        ASKED.given("within(0, 1)", j, j.within(0, 1), 1);
        j.assume(0, false);
        ASKED.given("within(0, 1), no more", j, j.within(0, 1), 0);
        ASKED.given("within(1, 0)", j, j.within(1, 0), 1);
    }

    // ---- promises 17, 18: telling, whose

    static void promise17_tellingOfLength0() {
        TestJudge j = Asked.told("tests b c;let x=1;let y=!b+!c;let z=0;let w=b;");
        telling(j, 0, 1, 0, 3);
        telling(j, 2, 0, 1, 0);
        telling(j, 3, 0, 1, 0);
        telling(j, 1, 3, 0, 0);
    }

    static void promise17_tellingEachPlace() {
        TestJudge j = Asked.told("tests b c d;acts p q r;let x=b c d r p q c;let y=b c d r p q c(b+d);let z=(p+q+r)*;");
        telling(j, 0, 1, 0, 7, 2, 0, 0, 0, 1, 2);
        telling(j, 2, 0, 0, 0);
        TestJudge k = Asked.told("tests b;acts p;let x=p*;let y=(1+p)(1+p)(1+p)(1+p)(1+p);");
        telling(k, 0, 1, 0, 0, 0, 0, 0, 0, 0, 0, 0, 0, 0, 0, 0, 0);
    }

    static void promise17_tellingOfTwoTheLesserWhosesoever() {
        TestJudge j = Asked.told("tests b;acts p q;let x=b p+!b q;let y=!b p;let z=b q;let w=!b p!b;");
        // 0 p 0 of y comes ahead of 0 q 0 of x.
        telling(j, 0, 1, 1, 0, 0, 0);
        telling(j, 0, 2, 0, 0, 1, 0);
        telling(j, 1, 3, 0, 0, 0, 1);
    }

    static void promise17_tellingWithKBelowNone() {
        TestJudge j = Asked.told("let x=1;let y=0;");
        for (int k : new int[] {-2, Integer.MIN_VALUE}) {
            ASKED.denied("telling(0, 1, " + k + ")", j, j.telling(0, 1, k), 1);
            ASKED.denied("telling(0, 0, " + k + ")", j, j.telling(0, 0, k), 1);
            ASKED.denied("telling(2, 0, " + k + ")", j, j.telling(2, 0, k), 1);
        }
        ASKED.given("telling(0, 1, NONE)", j, j.telling(0, 1, NONE), 0);
    }

    static void promise17_tellingWithNotSoManyPlaces() {
        TestJudge j = Asked.told("acts p;let x=1+p;let y=1;");
        ASKED.given("telling(0, 1, 2)", j, j.telling(0, 1, 2), 0);
        for (int k : new int[] {3, 4, 5, Integer.MAX_VALUE - 1, Integer.MAX_VALUE}) {
            ASKED.denied("telling(0, 1, " + k + ")", j, j.telling(0, 1, k), 5);
        }
    }

    static void promise17_tellingOfEqualOnes() {
        TestJudge j = Asked.told("acts p;let x=p*;let y=1+p p*;let z=0;");
        for (int k = NONE; k < 3; k++) {
            ASKED.denied("telling(0, 1, " + k + ")", j, j.telling(0, 1, k), 5);
            ASKED.denied("telling(2, 2, " + k + ")", j, j.telling(2, 2, k), 5);
        }
        ASKED.denied("telling(0, 3, NONE)", j, j.telling(0, 3, NONE), 2);
        ASKED.denied("telling(3, 0, NONE)", j, j.telling(3, 0, NONE), 2);
    }

    static void promise17_tellingLate() {
        // Found by a search, counted a second time with Chart.
        TestJudge j = Asked.told("tests b c;acts p;let x=(!b p!b((p!b p c!b p!c!b p c)*)*!b)*!c;"
                + "let y=(((p b!b p c+p!c)c p c+!b p!b))*!c;");
        telling(j, 0, 1, 0, 0, 0, 0, 0, 0, 0, 2, 0, 0, 0, 3, 0, 0, 0, 2, 0, 0, 0, 2, 0, 0);
    }

    static void promise18_whoseOfEqualOnes() {
        TestJudge j = Asked.told("acts p;let x=p*;let y=1+p p*;");
        ASKED.denied("whose(0, 1)", j, j.whose(0, 1), 5);
        ASKED.denied("whose(1, 1)", j, j.whose(1, 1), 5);
        ASKED.denied("whose(1, 2)", j, j.whose(1, 2), 2);
        ASKED.denied("whose(-1, 1)", j, j.whose(-1, 1), 2);
    }

    static void promise18_whoseIsTheFirstOnesOrTheOthers() {
        TestJudge j = Asked.told("tests b;acts p;let x=b p;let y=!b p;let z=0;");
        telling(j, 0, 1, 1, 0, 0, 0);
        telling(j, 0, 2, 0, 1, 0, 0);
    }

    // ---- promises 19, 20: same, kinds

    static void promise19_sameAsTheLeast() {
        TestJudge j = Asked.told("acts p;let a=p;let b=1;let c=p+0;let d=p 1;let e=0*;let f=p p;let g=0;let h=p p 0;");
        int[] same = {0, 1, 0, 0, 1, 5, 6, 6};
        for (int p = 0; p < 8; p++) {
            ASKED.given("same(" + p + ")", j, j.same(p), same[p]);
        }
        ASKED.denied("same(8)", j, j.same(8), 2);
        ASKED.denied("same(-1)", j, j.same(-1), 2);
    }

    static void promise19_sameAsTheLastOneAlone() {
        TestJudge j = Asked.told("acts p;let a=p;let b=1;let c=p p;let d=p p p;let e=0;let f=p*;let g=p p p p;let h=p*;");
        ASKED.given("same(7)", j, j.same(7), 5);
        j.drop(5);
        ASKED.given("same(6)", j, j.same(6), 6);
    }

    static void promise20_kindsFrom0To8() {
        StringBuilder text = new StringBuilder("acts p;");
        String[] sums = {"0", "1", "p", "p p", "p p p", "p p p p", "p p p p p", "p*"};
        for (int n = 0; n <= 8; n++) {
            TestJudge j = Asked.told(text.toString());
            ASKED.given("kinds() of " + n, j, j.kinds(), n);
            text.append("let v").append((char) ('a' + n)).append("=").append(n < 8 ? sums[n] : "0").append(";");
        }
    }

    static void promise20_kindsOfEqualOnesOne() {
        TestJudge j = Asked.told("tests b;let a=b;let c=b+b;let d=b b;let e=b*b;let f=!!b;let g=b+0;let h=b 1;let i=b+b b;");
        ASKED.given("kinds()", j, j.kinds(), 1);
        for (int left = 7; left >= 0; left--) {
            j.drop(0);
            ASKED.given("kinds() of " + left, j, j.kinds(), left == 0 ? 0 : 1);
        }
    }

    static void promise20_kindsByWhatIsAssumed() {
        TestJudge j = Asked.told("tests b;zero b;let x=b;let y=0;let z=1;let w=!b;");
        ASKED.given("kinds()", j, j.kinds(), 2);
        j.assume(0, false);
        ASKED.given("kinds()", j, j.kinds(), 4);
    }

    // ---- promise 21: swaps

    static void promise21_swapsOfWeight6AndNot7() {
        TestJudge j = Asked.told("acts p;let a=p;let b=p p;let c=p p p;let d=p p p p;let e=p p p p p;let f=0 p p p p p;let z=1;");
        int[][] pairs = {{4, 0}, {0, 4}, {3, 1}, {1, 3}, {2, 2}, {5, 0}, {4, 6}};
        for (int[] pair : pairs) {
            ASKED.given("swaps(" + pair[0] + ", " + pair[1] + ")", j, j.swaps(pair[0], pair[1]), 1);
        }
        int[][] heavy = {{4, 1}, {1, 4}, {3, 2}, {2, 3}, {4, 4}, {5, 1}, {5, 5}, {3, 3}};
        for (int[] pair : heavy) {
            ASKED.denied("swaps(" + pair[0] + ", " + pair[1] + ")", j, j.swaps(pair[0], pair[1]), 3);
        }
        ASKED.denied("swaps(4, 7)", j, j.swaps(4, 7), 2);
        ASKED.denied("swaps(-1, 4)", j, j.swaps(-1, 4), 2);
    }

    static void promise21_swapsOfTheSameOne() {
        TestJudge j = Asked.told("tests b;acts p q;let x=p b q;let y=0;let z=b;let w=1;");
        for (int p = 0; p < 4; p++) {
            ASKED.given("swaps(" + p + ", " + p + ")", j, j.swaps(p, p), 1);
            ASKED.given("swaps with 0", j, j.swaps(p, 1), 1);
            ASKED.given("swaps with 1", j, j.swaps(3, p), 1);
        }
    }

    static void promise21_swapsSeenByTheLastAtomOrAct() {
        TestJudge j = Asked.told("tests b;acts p q;let x=p p p;let y=p p q;let z=p p p b;let w=b;let v=p b;let u=b p b;");
        ASKED.given("p p p and p p q", j, j.swaps(0, 1), 0);
        ASKED.given("p p p and p p p b", j, j.swaps(0, 2), 0);
        ASKED.given("b and p b", j, j.swaps(3, 4), 0);
        ASKED.given("b and b p b", j, j.swaps(3, 5), 1);
    }

    static void promise21_swapsByWhatIsAssumed() {
        TestJudge j = Asked.told("acts p q;zero p q;let x=p;let y=q;let z=0;");
        ASKED.given("p q is FORBIDDEN, q p is not", j, j.swaps(0, 1), 0);
        TestJudge k = Asked.told("tests b;acts p;zero!b p b+b p!b;let x=b;let y=p;");
        ASKED.given("p keeps b", k, k.swaps(0, 1), 1);
        k.assume(0, false);
        ASKED.given("it need not", k, k.swaps(0, 1), 0);
    }

    // ---- promise 22: both

    static void promise22_bothOfLength0To12() {
        TestJudge j = Asked.told("tests b c d;acts p q r;let x=(p+q+r)*;let y=0;let z=(p+q)*;");
        ASKED.denied("both(0, 0, -1)", j, j.both(0, 0, -1), 1);
        long all = 8;
        long some = 8;
        for (int n = 0; n <= 12; n++) {
            ASKED.given("both(0, 0, " + n + ")", j, j.both(0, 0, n), all);
            ASKED.given("both(0, 2, " + n + ")", j, j.both(0, 2, n), some);
            all *= 24;
            some *= 16;
        }
        ASKED.denied("both(0, 0, 13)", j, j.both(0, 0, 13), 1);
        ASKED.denied("both(0, 3, 13)", j, j.both(0, 3, 13), 1);
        ASKED.denied("both(0, 3, 12)", j, j.both(0, 3, 12), 2);
        ASKED.denied("both(-1, 0, 0)", j, j.both(-1, 0, 0), 2);
        ASKED.denied("both(0, 0, least)", j, j.both(0, 0, Integer.MIN_VALUE), 1);
        ASKED.denied("both(0, 0, greatest)", j, j.both(0, 0, Integer.MAX_VALUE), 1);
    }

    static void promise22_bothOfThoseThatShareNone() {
        TestJudge j = Asked.told("tests b;acts p q;let x=p p*;let y=q q*;let z=0;let w=b p*;let v=!b p*;");
        for (int n = 0; n <= 12; n++) {
            ASKED.given("both(0, 1, " + n + ")", j, j.both(0, 1, n), 0);
            ASKED.given("both(0, 2, " + n + ")", j, j.both(0, 2, n), 0);
            ASKED.given("both(3, 4, " + n + ")", j, j.both(3, 4, n), 0);
        }
    }

    static void promise22_bothOfThoseThatMeetSeldom() {
        TestJudge j = Asked.told("acts p;let x=(p p p p)*;let y=(p p p)*;let z=(p p p p p)*;");
        for (int n = 0; n <= 12; n++) {
            ASKED.given("both(0, 1, " + n + ")", j, j.both(0, 1, n), n % 12 == 0 ? 1 : 0);
            ASKED.given("both(2, 0, " + n + ")", j, j.both(2, 0, n), n == 0 ? 1 : 0);
            ASKED.given("both(0, 0, " + n + ")", j, j.both(0, 0, n), n % 4 == 0 ? 1 : 0);
        }
    }

    static void promise22_bothByManyWays() {
        // Found by a search, counted a second time with Chart: some hundreds of pairs of RESTS are met.
        TestJudge j = Asked.told("tests b c;acts p;let x=((((p p p)*+(c p p)*c))*c)*;let y=(((b p p p p)*+!c p!c)*b)*;");
        int[] both = {4, 0, 0, 0, 32, 64, 256, 0, 12032, 31232, 16384, 104448, 2327040};
        for (int n = 0; n <= 12; n++) {
            ASKED.given("both(0, 1, " + n + ")", j, j.both(0, 1, n), both[n]);
            ASKED.given("both(1, 0, " + n + ")", j, j.both(1, 0, n), both[n]);
        }
    }

    static void promise22_bothByWhatIsAssumed() {
        TestJudge j = Asked.told("tests b;acts p;zero b p b;let x=p*;let y=(p p)*;");
        int[] fibonacci = {2, 3, 5, 8, 13, 21, 34, 55, 89, 144, 233, 377, 610};
        for (int n = 0; n <= 12; n++) {
            ASKED.given("both(0, 1, " + n + ")", j, j.both(0, 1, n), n % 2 == 0 ? fibonacci[n] : 0);
        }
    }
}
