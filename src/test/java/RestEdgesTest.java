/** Boundary cases of promises 23 to 31: rests, what is clear, what holds ahead and behind. */
public final class RestEdgesTest {
    private static final Asked ASKED = new Asked("RestEdgesTest");
    private static final Edges EDGES = new Edges(ASKED);

    public static void main(String[] args) throws IllegalAccessException {
        EDGES.run(RestEdgesTest.class);
    }

    private static void rests(TestJudge j, int program, int... atoms) {
        ASKED.given("rests(" + program + ")", j, j.rests(program), atoms.length);
        for (int k = 0; k < atoms.length; k++) {
            ASKED.given("rest(" + program + ", " + k + ")", j, j.rest(program, k), atoms[k]);
        }
        ASKED.denied("rest() behind the last one", j, j.rest(program, atoms.length), 5);
        ASKED.denied("rest() of -1", j, j.rest(program, -1), 5);
    }

    // ---- promises 23, 24: rests, rest

    static void promise23_restsOfOneWithoutStrings() {
        TestJudge j = Asked.told("tests b;acts p;let x=0;let y=p 0;let z=p b;zero b;");
        rests(j, 0);
        rests(j, 1);
        rests(j, 2);
        j.assume(0, false);
        rests(j, 2, 0, 2);
    }

    static void promise23_restsBehindNoPartFirst() {
        TestJudge j = Asked.told("tests b;acts p;let x=b;let y=p*;let z=p;let w=b+p;");
        rests(j, 0, 2);
        rests(j, 1, 3);
        rests(j, 2, 0, 3);
        rests(j, 3, 2, 3);
    }

    static void promise23_restsThatAreEmptyAreNone() {
        TestJudge j = Asked.told("tests b;acts p q;let x=p q 0+p b;let y=b p 0+q;let z=p b!b p+b;");
        rests(j, 0, 0, 2);
        rests(j, 1, 0, 3);
        rests(j, 2, 2);
        ASKED.denied("next(1, 0, 1, 0)", j, j.next(1, 0, 1, 0), 5);
    }

    static void promise23_restsThatAreTheSameAreOne() {
        TestJudge j = Asked.told("tests b;acts p q;let x=p(p+q)*;let y=p q b+q q b;let z=b p p+!b q p;let w=p p*+1;");
        rests(j, 0, 0, 3);
        rests(j, 1, 0, 0, 2);
        rests(j, 2, 0, 0, 3);
        rests(j, 3, 3);
    }

    static void promise23_restsAtomByAtomActByAct() {
        TestJudge j = Asked.told("tests b;acts p q;let x=!b p b+!b q!b+b p+b q p;let y=b q p+b p+!b q!b+!b p b;");
        for (int program = 0; program < 2; program++) {
            rests(j, program, 0, 2, 1, 3, 0);
            for (int k = 1; k < 5; k++) {
                ASKED.given("next to " + k, j, j.next(program, 0, (k - 1) / 2, (k - 1) % 2), k);
            }
            ASKED.given("one met already", j, j.next(program, 4, 0, 0), 3);
        }
    }

    static void promise23_restsFromEachInTurn() {
        // What comes behind the first one met is numbered behind all that come from number 0.
        TestJudge j = Asked.told("tests b;acts p;let x=!b p p!b+b p b;let y=!b p b p b p!b+b p;");
        rests(j, 0, 0, 0, 2, 1);
        rests(j, 1, 0, 0, 3, 0, 1);
        ASKED.given("next(1, 1, 1, 0)", j, j.next(1, 1, 1, 0), 3);
        ASKED.given("next(1, 3, 1, 0)", j, j.next(1, 3, 1, 0), 4);
    }

    static void promise23_restsByWhatIsAssumed() {
        TestJudge j = Asked.told("tests b;acts p q;zero p q;let x=(p+q)*;let y=q b p;");
        rests(j, 0, 3, 3);
        rests(j, 1, 0, 0, 3);
        j.assume(0, false);
        rests(j, 0, 3);
        j.undo();
        rests(j, 0, 3, 3);
    }

    static void promise23_restsMoreThan60() {
        TestJudge j = Asked.told("tests b c d;acts p;zero !c p (c+!d b) p (b+!d);"
                + "let v=((b+!d)p p(c+!d b)p p!c+d p(!b+c d))*;let w=d;");
        ASKED.given("rests(0)", j, j.rests(0), 88);
        ASKED.due("rest(0, 87)", j.rest(0, 87) >= 0 ? 1 : 0, 1);
        ASKED.denied("rest(0, 88)", j, j.rest(0, 88), 5);
        rests(j, 1, 240);
    }

    static void promise24_restOfNoAtomAndOfAll() {
        TestJudge j = Asked.told("tests b c d;acts p;let x=p;let y=p b c d;let z=p!b!c!d;");
        rests(j, 0, 0, 255);
        rests(j, 1, 0, 128);
        rests(j, 2, 0, 1);
    }

    static void promise24_restThatIsNone() {
        TestJudge j = Asked.told("acts p;let x=p;let y=0;");
        ASKED.given("rest(0, 1)", j, j.rest(0, 1), 1);
        for (int k : new int[] {2, -1, Integer.MAX_VALUE, Integer.MIN_VALUE}) {
            ASKED.denied("rest(0, " + k + ")", j, j.rest(0, k), 5);
        }
        ASKED.denied("rest(1, 0)", j, j.rest(1, 0), 5);
        ASKED.denied("rest(2, 2)", j, j.rest(2, 2), 2);
    }

    // ---- promise 25: next

    static void promise25_nextByTheLastAtomAndAct() {
        TestJudge j = Asked.told("tests b c d;acts p q r;let x=b c d r b c d r;let y=!b!c!d p;");
        ASKED.given("next(0, 0, 7, 2)", j, j.next(0, 0, 7, 2), 1);
        ASKED.given("next(0, 1, 7, 2)", j, j.next(0, 1, 7, 2), 2);
        ASKED.denied("next(0, 2, 7, 2)", j, j.next(0, 2, 7, 2), 5);
        ASKED.denied("next(0, 0, 8, 2)", j, j.next(0, 0, 8, 2), 2);
        ASKED.denied("next(0, 0, 7, 3)", j, j.next(0, 0, 7, 3), 2);
        ASKED.given("next(1, 0, 0, 0)", j, j.next(1, 0, 0, 0), 1);
        ASKED.denied("next(1, 0, -1, 0)", j, j.next(1, 0, -1, 0), 2);
        ASKED.denied("next(1, 0, 0, -1)", j, j.next(1, 0, 0, -1), 2);
    }

    static void promise25_nextOfAtomsAndActsThatWereNotTold() {
        TestJudge j = Asked.told("tests b;acts p;let x=p*;");
        ASKED.given("next(0, 0, 1, 0)", j, j.next(0, 0, 1, 0), 0);
        ASKED.denied("next(0, 0, 2, 0)", j, j.next(0, 0, 2, 0), 2);
        ASKED.denied("next(0, 0, 1, 1)", j, j.next(0, 0, 1, 1), 2);
        TestJudge k = Asked.told("let x=1;");
        ASKED.denied("no ACTS at all", k, k.next(0, 0, 0, 0), 2);
    }

    static void promise25_nextOfARestThatIsNone() {
        TestJudge j = Asked.told("acts p;let x=p;let y=0;");
        ASKED.denied("next(0, 2, 0, 0)", j, j.next(0, 2, 0, 0), 5);
        ASKED.denied("next(0, -1, 0, 0)", j, j.next(0, -1, 0, 0), 5);
        ASKED.denied("next(0, greatest, 0, 0)", j, j.next(0, Integer.MAX_VALUE, 0, 0), 5);
        ASKED.denied("next(1, 0, 0, 0)", j, j.next(1, 0, 0, 0), 5);
        ASKED.denied("next(0, 9, 1, 0): the first that holds", j, j.next(0, 9, 1, 0), 2);
        ASKED.denied("next(2, 0, 0, 0)", j, j.next(2, 0, 0, 0), 2);
    }

    static void promise25_nextThatIsEmpty() {
        TestJudge j = Asked.told("tests b;acts p q;let x=b p;let y=p*;zero b;let z=p 0+q;");
        ASKED.denied("with another ATOM", j, j.next(0, 0, 0, 0), 5);
        ASKED.denied("by another ACT", j, j.next(1, 0, 0, 1), 5);
        ASKED.denied("with an ATOM that is FORBIDDEN", j, j.next(1, 0, 1, 0), 5);
        ASKED.denied("with nothing behind", j, j.next(2, 0, 0, 0), 5);
        ASKED.given("with something", j, j.next(2, 0, 0, 1), 1);
    }

    // ---- promise 26: clear

    static void promise26_clearOfOneWithoutStrings() {
        TestJudge j = Asked.told("tests b;acts p;let x=0;let y=p 0;let z=p;zero 1;");
        for (int p = 0; p < 3; p++) {
            ASKED.given("clear(" + p + ")", j, j.clear(p), 1);
        }
    }

    static void promise26_clearWithOneWayAndNotTwo() {
        TestJudge j = Asked.told("tests b;acts p q;let x=1;let y=p;let z=1+b p;let w=b p+b q;let v=b p+!b q;let u=!b+b p;"
                + "let t=b+b p;let s=p q;");
        int[] clear = {1, 1, 0, 0, 1, 1, 0, 1};
        for (int p = 0; p < 8; p++) {
            ASKED.given("clear(" + p + ")", j, j.clear(p), clear[p]);
        }
    }

    static void promise26_clearIsAskedOfTheFirstAtomAndTheFirstRest() {
        TestJudge j = Asked.told("tests b;acts p q;let x=!b p+!b q;let y=!b+!b p;let z=(!b p)*;let w=p*;let v=!b p;"
                + "let u=(b p)*!b;let t=p q+q p!b;");
        int[] clear = {0, 0, 0, 0, 1, 1, 0};
        for (int p = 0; p < 7; p++) {
            ASKED.given("clear(" + p + ")", j, j.clear(p), clear[p]);
        }
    }

    static void promise26_clearIsAskedOfTheLastRestToo() {
        TestJudge j = Asked.told("tests b c d;acts p q r;let x=p p p(1+b c d r);let y=p p(p+b c d r);let z=p p(!b p+b c d r);");
        ASKED.given("to end, or by r with the last ATOM", j, j.clear(0), 0);
        ASKED.given("by p or by r with the last ATOM", j, j.clear(1), 0);
        ASKED.given("with each ATOM at most one", j, j.clear(2), 1);
    }

    static void promise26_clearIfAWayHasNothingBehindIt() {
        TestJudge j = Asked.told("tests b;acts p q;let x=1+p 0;let y=p+q b!b;let z=p+q b;zero q b;");
        for (int p = 0; p < 3; p++) {
            ASKED.given("clear(" + p + ")", j, j.clear(p), 1);
        }
        j.assume(0, false);
        ASKED.given("clear(2), nothing forbidden", j, j.clear(2), 0);
    }

    // ---- promise 27: far

    static void promise27_farFrom0To5() {
        TestJudge j = Asked.told("acts p;let x=p p p p p;");
        for (int k = 0; k < 6; k++) {
            ASKED.given("far(0, " + k + ")", j, j.far(0, k), k);
        }
        ASKED.denied("far(0, 6)", j, j.far(0, 6), 5);
        ASKED.denied("far(0, -1)", j, j.far(0, -1), 5);
        ASKED.denied("far(1, 6)", j, j.far(1, 6), 2);
    }

    static void promise27_farIsTheShortestPart() {
        // What is left behind p p p is left behind q, too.
        TestJudge j = Asked.told("acts p q;let x=p p p+q;let y=p*;let z=0;");
        int[] far = {0, 1, 1, 2};
        for (int k = 0; k < 4; k++) {
            ASKED.given("far(0, " + k + ")", j, j.far(0, k), far[k]);
        }
        ASKED.given("behind no PART", j, j.far(1, 0), 0);
        ASKED.denied("no REST at all", j, j.far(2, 0), 5);
    }

    static void promise27_farMoreThanTheWeight() {
        // Found by a search, counted a second time with Chart.
        TestJudge j = Asked.told("tests b c;acts p;zero !c p (!c+!c);zero p b;let x=((p !b p !b !b p p + p !c !c)*)*;");
        int last = j.rests(0) - 1;
        ASKED.given("far() of the last", j, j.far(0, last), 13);
        for (int k = 1; k <= last; k++) {
            int step = j.far(0, k) - j.far(0, k - 1);
            ASKED.due("it grows with the numbers", step == 0 || step == 1 ? 1 : 0, 1);
        }
    }

    // ---- promise 28: right

    static void promise28_rightOfNoAtoms() {
        TestJudge j = Asked.told("tests b;acts p;let x=p;let y=0;let z=b;");
        for (int p = 0; p < 3; p++) {
            ASKED.given("right(0, " + p + ", 0)", j, j.right(0, p, 0), 1);
            ASKED.given("right(3, " + p + ", 3)", j, j.right(3, p, 3), 1);
            ASKED.given("right(3, " + p + ", 0)", j, j.right(3, p, 0), p == 1 ? 1 : 0);
        }
        ASKED.given("no string begins there", j, j.right(1, 2, 0), 1);
    }

    static void promise28_rightButForOneAtom() {
        TestJudge j = Asked.told("tests b c d;acts p;let x=p;let y=b c d p b c d+!b!c!d;let z=b c d p p p p b c d;");
        ASKED.given("right(1, 0, 255)", j, j.right(1, 0, 255), 1);
        ASKED.given("right(1, 0, 127)", j, j.right(1, 0, 127), 0);
        ASKED.given("right(1, 0, 254)", j, j.right(1, 0, 254), 0);
        ASKED.given("right(255, 1, 129)", j, j.right(255, 1, 129), 1);
        ASKED.given("right(255, 1, 128)", j, j.right(255, 1, 128), 0);
        ASKED.given("right(128, 1, 128)", j, j.right(128, 1, 128), 1);
        ASKED.given("right(128, 2, 127)", j, j.right(128, 2, 127), 0);
        ASKED.given("right(127, 2, 0)", j, j.right(127, 2, 0), 1);
    }

    static void promise28_rightOfOthersThanAtoms() {
        String[] tests = {"", "tests b;", "tests b c;", "tests b c d;"};
        for (int n = 0; n < 4; n++) {
            TestJudge j = Asked.told(tests[n] + "let x=1;");
            int all = (1 << (1 << n)) - 1;
            ASKED.given("right(all, 0, all)", j, j.right(all, 0, all), 1);
            for (int set : new int[] {all + 1, -1, Integer.MAX_VALUE, Integer.MIN_VALUE, all + 2 << 1}) {
                ASKED.denied("right(" + set + ", 0, all)", j, j.right(set, 0, all), 1);
                ASKED.denied("right(0, 0, " + set + ")", j, j.right(0, 0, set), 1);
                ASKED.denied("right(" + set + ", 1, all)", j, j.right(set, 1, all), 1);
                ASKED.denied("weakest(0, " + set + ")", j, j.weakest(0, set), 1);
                ASKED.denied("strongest(" + set + ", 0)", j, j.strongest(set, 0), 1);
                ASKED.denied("keeps(0, " + set + ")", j, j.keeps(0, set), 1);
            }
            ASKED.denied("right(all, 1, all)", j, j.right(all, 1, all), 2);
        }
    }

    static void promise28_rightByWhatIsAssumed() {
        TestJudge j = Asked.told("tests b;acts p;zero b p!b;let x=b p;let y=p p;");
        ASKED.given("right(2, 0, 2)", j, j.right(2, 0, 2), 1);
        ASKED.given("right(2, 1, 2)", j, j.right(2, 1, 2), 1);
        j.assume(0, false);
        ASKED.given("right(2, 0, 2), no more", j, j.right(2, 0, 2), 0);
    }

    // ---- promises 29 to 31: weakest, strongest, keeps

    static void promise29_weakestNoneAndAll() {
        TestJudge j = Asked.told("tests b c d;acts p;let x=p;let y=0;let z=1;let w=b c d p b c d;");
        ASKED.given("weakest(0, 255)", j, j.weakest(0, 255), 255);
        ASKED.given("weakest(0, 254)", j, j.weakest(0, 254), 0);
        ASKED.given("weakest(0, 127)", j, j.weakest(0, 127), 0);
        ASKED.given("weakest(0, 0)", j, j.weakest(0, 0), 0);
        ASKED.given("weakest(1, 0)", j, j.weakest(1, 0), 255);
        for (int set : new int[] {0, 1, 128, 255}) {
            ASKED.given("weakest(2, " + set + ")", j, j.weakest(2, set), set);
        }
        ASKED.given("weakest(3, 0)", j, j.weakest(3, 0), 127);
        ASKED.given("weakest(3, 128)", j, j.weakest(3, 128), 255);
        ASKED.denied("weakest(4, 0)", j, j.weakest(4, 0), 2);
        ASKED.denied("weakest(4, 256)", j, j.weakest(4, 256), 1);
    }

    static void promise29_weakestHasAtomsWithoutStrings() {
        TestJudge j = Asked.told("tests b c;acts p;zero b c;let x=b p c;let y=p;");
        // Atom 3 is FORBIDDEN, no string begins with it.
        ASKED.given("weakest(0, 0)", j, j.weakest(0, 0), 1 | 4 | 8);
        ASKED.given("weakest(1, 0)", j, j.weakest(1, 0), 8);
        ASKED.given("weakest(1, 7)", j, j.weakest(1, 7), 15);
    }

    static void promise30_strongestNoneAndAll() {
        TestJudge j = Asked.told("tests b c d;acts p;let x=p;let y=0;let z=1;let w=b c d p b c d;");
        ASKED.given("strongest(0, 0)", j, j.strongest(0, 0), 0);
        ASKED.given("strongest(1, 0)", j, j.strongest(1, 0), 255);
        ASKED.given("strongest(128, 0)", j, j.strongest(128, 0), 255);
        ASKED.given("strongest(255, 1)", j, j.strongest(255, 1), 0);
        for (int set : new int[] {0, 1, 128, 255}) {
            ASKED.given("strongest(" + set + ", 2)", j, j.strongest(set, 2), set);
        }
        ASKED.given("strongest(127, 3)", j, j.strongest(127, 3), 0);
        ASKED.given("strongest(255, 3)", j, j.strongest(255, 3), 128);
        ASKED.denied("strongest(0, 4)", j, j.strongest(0, 4), 2);
        ASKED.denied("strongest(256, 4)", j, j.strongest(256, 4), 1);
    }

    static void promise30_strongestBehindLongStrings() {
        TestJudge j = Asked.told("tests b c;acts p;let x=!b!c p b!c p!b c p b c;let y=(!b!c p b!c+b!c p!b c+!b c p b c)*;");
        ASKED.given("strongest(1, 0)", j, j.strongest(1, 0), 8);
        ASKED.given("strongest(14, 0)", j, j.strongest(14, 0), 0);
        int[] strongest = {15, 14, 12, 8};
        for (int atom = 0; atom < 4; atom++) {
            ASKED.given("strongest() of " + atom, j, j.strongest(1 << atom, 1), strongest[atom]);
        }
    }

    static void promise30_strongestThroughRestsMetEarlier() {
        // The later an ATOM leads away from the start, the earlier is the REST that comes behind it.
        TestJudge j = Asked.told("tests b c;acts p q;let x=(!b!c+(b!c+(!b c+b c p)p)p)p q b!c;");
        rests(j, 0, 0, 0, 0, 0, 0, 2);
        for (int atom = 0; atom < 4; atom++) {
            ASKED.given("strongest() of " + atom, j, j.strongest(1 << atom, 0), 2);
            ASKED.given("right() of " + atom, j, j.right(1 << atom, 0, 13), 0);
        }
        ASKED.given("weakest(0, 13)", j, j.weakest(0, 13), 0);
        ASKED.given("uses(0, 0)", j, j.uses(0, 0), 15);
        ASKED.given("uses(0, 1)", j, j.uses(0, 1), 2);
    }

    static void promise30_strongestBackThroughTheFirstRest() {
        TestJudge j = Asked.told("tests b;acts p;let x=(!b p b p)*;let y=(b p)*;let z=(!b p)*;");
        int[] first = {3, 1, 3};
        int[] second = {2, 3, 2};
        for (int p = 0; p < 3; p++) {
            rests(j, p, p == 0 ? new int[] {3, 0} : new int[] {3});
            ASKED.given("strongest(1, " + p + ")", j, j.strongest(1, p), first[p]);
            ASKED.given("strongest(2, " + p + ")", j, j.strongest(2, p), second[p]);
        }
    }

    static void promise31_keepsNoneAndAll() {
        TestJudge j = Asked.told("tests b c d;acts p;let x=p;let y=0;let z=1;let w=b c d p!b!c!d;");
        ASKED.given("keeps(0, 255)", j, j.keeps(0, 255), 255);
        ASKED.given("keeps(0, 254)", j, j.keeps(0, 254), 0);
        ASKED.given("keeps(0, 0)", j, j.keeps(0, 0), 0);
        for (int set : new int[] {0, 1, 128, 255}) {
            ASKED.given("keeps(1, " + set + ")", j, j.keeps(1, set), set);
            ASKED.given("keeps(2, " + set + ")", j, j.keeps(2, set), set);
        }
        ASKED.given("keeps(3, 255)", j, j.keeps(3, 255), 255);
        ASKED.given("keeps(3, 254)", j, j.keeps(3, 254), 126);
        ASKED.given("keeps(3, 128)", j, j.keeps(3, 128), 0);
        ASKED.given("keeps(3, 129)", j, j.keeps(3, 129), 129);
        ASKED.denied("keeps(4, 0)", j, j.keeps(4, 0), 2);
        ASKED.denied("keeps(4, 256)", j, j.keeps(4, 256), 1);
    }

    static void promise31_keepsLessAndLessRoundByRound() {
        // Each atom leads to the next one: without the last, all go, one behind the other.
        TestJudge j = Asked.told("tests b c d;acts p;let x=(!b!c!d p b!c!d+b!c!d p!b c!d+!b c!d p b c!d+b c!d p!b!c d+!b!c d p b!c d);");
        ASKED.given("keeps(0, 63)", j, j.keeps(0, 63), 63);
        ASKED.given("keeps(0, 31)", j, j.keeps(0, 31), 0);
        ASKED.given("keeps(0, 255 - 32)", j, j.keeps(0, 223), 192);
        ASKED.given("keeps(0, 255 - 4)", j, j.keeps(0, 251), 248);
        // And the other way round, so that no order of looking at them helps.
        TestJudge k = Asked.told("tests b c d;acts p;let x=(b!c d p!b!c d+!b!c d p b c!d+b c!d p!b c!d+!b c!d p b!c!d+b!c!d p!b!c!d);");
        ASKED.given("keeps(0, 63)", k, k.keeps(0, 63), 63);
        ASKED.given("keeps(0, 62)", k, k.keeps(0, 62), 0);
        ASKED.given("keeps(0, 254)", k, k.keeps(0, 254), 192);
    }
}
