import java.util.NoSuchElementException;

/** Promises 1, 2 and 6 to 42, each with ordinary inputs, the edges that the document names, and wrong ones. */
public final class PromisesTest {
    private static final Asked ASKED = new Asked("PromisesTest");
    private static final int NONE = TestJudge.NONE;

    public static void main(String[] args) {
        newObject();
        status();
        many();
        programAndFact();
        atomsAndUses();
        count();
        leastAndGreatest();
        first();
        equalAndWithin();
        tellingAndWhose();
        sameAndKinds();
        swaps();
        both();
        rests();
        next();
        clear();
        far();
        right();
        weakestAndStrongest();
        keeps();
        needs();
        fewest();
        walk();
        walkEnds();
        make();
        layers();
        drop();
        assume();
        undo();
        print();
        out();
        forbidden();
        ASKED.end();
    }

    private static void newObject() {
        ASKED.part("1 new object");
        TestJudge j = new TestJudge();
        ASKED.due("status", j.status(), 0);
        int[] want = {0, 0, 0, 0, 1, 0, 0, 0};
        for (int what = 0; what < want.length; what++) {
            ASKED.given("many(" + what + ")", j, j.many(what), want[what]);
        }
        ASKED.given("kinds()", j, j.kinds(), 0);
        ASKED.due("NONE", NONE, -1);
    }

    private static void status() {
        ASKED.part("2 status");
        TestJudge j = new TestJudge();
        j.many(-1);
        ASKED.due("status", j.status(), 1);
        ASKED.due("status again", j.status(), 1);
        j.feed(0, 0, 0, 0, 0);
        j.fault(0);
        try {
            j.out(0);
        } catch (NoSuchElementException none) {
            ASKED.due("status behind out()", j.status(), 1);
        }
        ASKED.due("feed, fault, out have none", j.status(), 1);
        j.atoms(0);
        ASKED.due("status", j.status(), 2);
        j.kinds();
        ASKED.due("status", j.status(), 0);
        j.undo();
        ASKED.due("status", j.status(), 5);
    }

    private static void many() {
        ASKED.part("6 many");
        TestJudge j = Asked.told("tests a b c;acts p q;let x=1;let y=p;let z=q;zero a b p;zero b !c;");
        int[] want = {3, 2, 3, 2, 8, 3, 0, 1 << 2 | 1 << 3};
        for (int what = 0; what < want.length; what++) {
            ASKED.given("many(" + what + ")", j, j.many(what), want[what]);
        }
        j.assume(1, false);
        ASKED.given("many(5)", j, j.many(5), 1);
        ASKED.given("many(6)", j, j.many(6), 1);
        ASKED.given("many(7)", j, j.many(7), 0);
        ASKED.denied("many(8)", j, j.many(8), 1);
        ASKED.denied("many(-1)", j, j.many(-1), 1);
    }

    private static void programAndFact() {
        ASKED.part("7, 8 program, fact");
        TestJudge j = Asked.told("tests b;acts p;let x=b;let y=x p+(0 p p)*;let z=if b then y else p end;zero b;zero p p;");
        int[] weights = {0, 3, 4};
        for (int i = 0; i < 3; i++) {
            ASKED.given("weight " + i, j, j.program(i, 0), weights[i]);
            ASKED.given("plain " + i, j, j.program(i, 1), i == 0 ? 1 : 0);
        }
        ASKED.denied("program(3, 0)", j, j.program(3, 0), 2);
        ASKED.denied("program(-1, 1)", j, j.program(-1, 1), 2);
        ASKED.denied("program(0, 2)", j, j.program(0, 2), 1);
        ASKED.denied("program(9, -1)", j, j.program(9, -1), 1);
        ASKED.given("fact(0, 0)", j, j.fact(0, 0), 0);
        ASKED.given("fact(1, 0)", j, j.fact(1, 0), 2);
        ASKED.given("fact(1, 1)", j, j.fact(1, 1), 1);
        j.assume(1, false);
        ASKED.given("fact(1, 1) no more", j, j.fact(1, 1), 0);
        ASKED.given("fact(0, 1)", j, j.fact(0, 1), 1);
        ASKED.given("fact(1, 0) keeps its weight", j, j.fact(1, 0), 2);
        ASKED.denied("fact(2, 0)", j, j.fact(2, 0), 2);
        ASKED.denied("fact(-1, 0)", j, j.fact(-1, 0), 2);
        ASKED.denied("fact(5, 2)", j, j.fact(5, 2), 1);
    }

    private static void atomsAndUses() {
        ASKED.part("9, 10 atoms, uses");
        TestJudge j = Asked.told("tests b c;acts p q r;let x=b+!c q;let y=(b p c+r 0)*;let z=0;"
                + "let w=if b then p else 1 end;zero b c;");
        // Atoms: 0 none, 1 b, 2 c, 3 both, which is forbidden.
        ASKED.given("atoms(0)", j, j.atoms(0), 2);
        ASKED.given("atoms(1)", j, j.atoms(1), 7);
        ASKED.given("atoms(2)", j, j.atoms(2), 0);
        ASKED.given("atoms(3)", j, j.atoms(3), 5);
        ASKED.given("uses(0, 0)", j, j.uses(0, 0), 3);
        ASKED.given("uses(0, 1)", j, j.uses(0, 1), 7);
        ASKED.given("uses(0, 2)", j, j.uses(0, 2), 2);
        // From b by p to c alone, where b p can't go on.
        ASKED.given("uses(1, 0)", j, j.uses(1, 0), 7);
        ASKED.given("uses(1, 2)", j, j.uses(1, 2), 1);
        ASKED.given("count(1, 2)", j, j.count(1, 2), 0);
        for (int what = 0; what < 3; what++) {
            ASKED.given("uses(2, " + what + ")", j, j.uses(2, what), 0);
        }
        j.assume(0, false);
        ASKED.given("atoms(0), none forbidden", j, j.atoms(0), 2 | 8);
        ASKED.given("uses(1, 1), none forbidden", j, j.uses(1, 1), 15);
        ASKED.denied("atoms(4)", j, j.atoms(4), 2);
        ASKED.denied("atoms(-1)", j, j.atoms(-1), 2);
        ASKED.denied("uses(0, 3)", j, j.uses(0, 3), 1);
        ASKED.denied("uses(9, -1)", j, j.uses(9, -1), 1);
        ASKED.denied("uses(9, 0)", j, j.uses(9, 0), 2);
    }

    private static void count() {
        ASKED.part("11 count");
        TestJudge j = Asked.told("tests a b c;acts p q r;let x=(p+q+r)*;let y=p+p;let z=a p b;");
        long all = 8;
        for (int n = 0; n <= 12; n++) {
            ASKED.given("count(0, " + n + ")", j, j.count(0, n), all);
            all *= 24;
        }
        ASKED.given("a string once", j, j.count(1, 1), 64);
        ASKED.given("count(2, 1)", j, j.count(2, 1), 16);
        ASKED.given("count(2, 0)", j, j.count(2, 0), 0);
        ASKED.denied("count(0, 13)", j, j.count(0, 13), 1);
        ASKED.denied("count(0, -1)", j, j.count(0, -1), 1);
        ASKED.denied("count(3, 12)", j, j.count(3, 12), 2);
        ASKED.denied("count(3, 13)", j, j.count(3, 13), 1);
        TestJudge one = Asked.told("acts p;let x=p*;zero p p;let y=p p;");
        ASKED.given("one atom", one, one.count(0, 1), 1);
        ASKED.given("forbidden", one, one.count(0, 2), 0);
        ASKED.given("with it inside", one, one.count(0, 3), 0);
    }

    private static void leastAndGreatest() {
        ASKED.part("12, 13 least, greatest");
        TestJudge j = Asked.told("tests b;acts p q;let x=p p+q;let y=p* q p;let z=p 0;let w=b;let v=(b p !b)*;let u=1;");
        int[] least = {1, 2, NONE, 0, 0, 0};
        int[] greatest = {2, NONE, NONE, 0, 1, 0};
        for (int i = 0; i < least.length; i++) {
            ASKED.due("least(" + i + ")", j.least(i), least[i]);
            ASKED.due("its status", j.status(), least[i] == NONE ? 5 : 0);
            ASKED.due("greatest(" + i + ")", j.greatest(i), greatest[i]);
            ASKED.due("its status", j.status(), greatest[i] == NONE ? 5 : 0);
        }
        ASKED.denied("least(6)", j, j.least(6), 2);
        ASKED.denied("greatest(-1)", j, j.greatest(-1), 2);
        TestJudge k = Asked.told("acts p q;let x=p*+q;zero p p;");
        ASKED.given("a greatest by a fact", k, k.greatest(0), 1);
        k.assume(0, false);
        ASKED.denied("none without it", k, k.greatest(0), 5);
    }

    private static void first() {
        ASKED.part("14 first");
        TestJudge j = Asked.told("tests b c;acts p q;let x=p p+q b;let y=c q (b p+c p) b;let z=q 0;let w=b;");
        int[][] strings = {{0, 1, 1}, {2, 1, 1, 0, 1}, {}, {1}};
        for (int i = 0; i < strings.length; i++) {
            int[] s = strings[i];
            ASKED.due("first(" + i + ", NONE)", j.first(i, NONE), s.length == 0 ? NONE : s.length / 2);
            for (int k = 0; k < s.length; k++) {
                ASKED.given("first(" + i + ", " + k + ")", j, j.first(i, k), s[k]);
            }
            ASKED.denied("first behind its end", j, j.first(i, s.length), 5);
            ASKED.denied("first far behind", j, j.first(i, Integer.MAX_VALUE), 5);
        }
        ASKED.denied("first(0, -2)", j, j.first(0, -2), 1);
        ASKED.denied("first(9, -2)", j, j.first(9, -2), 1);
        ASKED.denied("first(4, 0)", j, j.first(4, 0), 2);
        ASKED.denied("first(2, NONE)", j, j.first(2, NONE), 5);
    }

    private static void equalAndWithin() {
        ASKED.part("15, 16 equal, within");
        TestJudge j = Asked.told("tests b;acts p q;let x=(p+q)*;let y=(p* q)* p*;let z=p*;"
                + "let s=while b do p end;let t=if b then p s else 1 end;let u=0;let v=q 0;");
        boolean[][] inside = {
            {true, true, false, false, false, false, false}, {true, true, false, false, false, false, false},
            {true, true, true, false, false, false, false}, {true, true, true, true, true, false, false},
            {true, true, true, true, true, false, false}, {true, true, true, true, true, true, true},
            {true, true, true, true, true, true, true}};
        for (int i = 0; i < 7; i++) {
            for (int k = 0; k < 7; k++) {
                ASKED.given("within(" + i + ", " + k + ")", j, j.within(i, k), inside[i][k] ? 1 : 0);
                ASKED.given("equal(" + i + ", " + k + ")", j, j.equal(i, k), inside[i][k] && inside[k][i] ? 1 : 0);
            }
        }
        ASKED.denied("equal(0, 7)", j, j.equal(0, 7), 2);
        ASKED.denied("equal(-1, 0)", j, j.equal(-1, 0), 2);
        ASKED.denied("within(7, 0)", j, j.within(7, 0), 2);
        ASKED.denied("within(0, -1)", j, j.within(0, -1), 2);
    }

    private static void tellingAndWhose() {
        ASKED.part("17, 18 telling, whose");
        TestJudge j = Asked.told("tests b;acts p q;let x=p*;let y=1+p+p b p;let z=p+q !b;let w=p p*+1;");
        // 0 p 0 p 0 is no string of y.
        int[] string = {0, 0, 0, 0, 0};
        ASKED.given("telling(0, 1, NONE)", j, j.telling(0, 1, NONE), 2);
        for (int k = 0; k < 5; k++) {
            ASKED.given("telling(0, 1, " + k + ")", j, j.telling(0, 1, k), string[k]);
        }
        ASKED.given("whose(0, 1)", j, j.whose(0, 1), 0);
        ASKED.given("whose(1, 0)", j, j.whose(1, 0), 1);
        ASKED.denied("telling(0, 1, 5)", j, j.telling(0, 1, 5), 5);
        ASKED.given("telling(2, 0, NONE)", j, j.telling(2, 0, NONE), 0);
        ASKED.given("telling(2, 0, 0)", j, j.telling(2, 0, 0), 0);
        ASKED.given("whose(2, 0)", j, j.whose(2, 0), 1);
        j.make(0, 2, 1, 0);
        // What is more in it is 0 q 0 at first, behind 0 p 0 that both have.
        ASKED.given("telling(1, 4, NONE)", j, j.telling(1, 4, NONE), 1);
        ASKED.given("telling(1, 4, 1)", j, j.telling(1, 4, 1), 1);
        ASKED.given("whose(1, 4)", j, j.whose(1, 4), 1);
        ASKED.denied("telling(0, 3, NONE)", j, j.telling(0, 3, NONE), 5);
        ASKED.denied("telling(0, 3, 0)", j, j.telling(0, 3, 0), 5);
        ASKED.denied("whose(0, 3)", j, j.whose(0, 3), 5);
        ASKED.denied("whose(2, 2)", j, j.whose(2, 2), 5);
        ASKED.denied("telling(9, 3, -2)", j, j.telling(9, 3, -2), 1);
        ASKED.denied("telling(9, 3, 0)", j, j.telling(9, 3, 0), 2);
        ASKED.denied("telling(0, -1, 0)", j, j.telling(0, -1, 0), 2);
        ASKED.denied("whose(0, 9)", j, j.whose(0, 9), 2);
    }

    private static void sameAndKinds() {
        ASKED.part("19, 20 same, kinds");
        TestJudge j = Asked.told("tests b;acts p;let x=p;let y=b+!b;let z=b p+!b p;let w=1;let v=b;zero b p !b;");
        int[] same = {0, 1, 0, 1, 4};
        for (int i = 0; i < 5; i++) {
            ASKED.given("same(" + i + ")", j, j.same(i), same[i]);
        }
        ASKED.given("kinds()", j, j.kinds(), 3);
        ASKED.denied("same(5)", j, j.same(5), 2);
        ASKED.denied("same(-1)", j, j.same(-1), 2);
        j.drop(0);
        ASKED.given("same(1) behind drop(0)", j, j.same(1), 1);
        ASKED.given("kinds() behind drop(0)", j, j.kinds(), 3);
    }

    private static void swaps() {
        ASKED.part("21 swaps");
        TestJudge j = Asked.told("tests b;acts p q;let x=p;let y=q;let z=p p;let w=b;let v=(p+q)(p+q);"
                + "let u=(p+q)*;let t=p p p p p;");
        ASKED.given("swaps(0, 1)", j, j.swaps(0, 1), 0);
        ASKED.given("swaps(0, 2)", j, j.swaps(0, 2), 1);
        ASKED.given("swaps(2, 0)", j, j.swaps(2, 0), 1);
        ASKED.given("swaps(0, 3)", j, j.swaps(0, 3), 0);
        ASKED.given("swaps(0, 0)", j, j.swaps(0, 0), 1);
        ASKED.given("swaps(4, 5), weight 6", j, j.swaps(4, 5), 1);
        ASKED.given("swaps(6, 0), weight 6", j, j.swaps(6, 0), 1);
        ASKED.given("swaps(6, 1), weight 6", j, j.swaps(6, 1), 0);
        ASKED.denied("swaps(6, 2), weight 7", j, j.swaps(6, 2), 3);
        ASKED.denied("swaps(7, 2)", j, j.swaps(7, 2), 2);
        ASKED.denied("swaps(0, -1)", j, j.swaps(0, -1), 2);
        TestJudge k = Asked.told("tests b;acts p;let x=p;let y=b;zero b p !b+!b p b;");
        ASKED.given("swaps by a fact", k, k.swaps(0, 1), 1);
        k.assume(0, false);
        ASKED.given("swaps without it", k, k.swaps(0, 1), 0);
    }

    private static void both() {
        ASKED.part("22 both");
        TestJudge j = Asked.told("tests b;acts p q;let x=p*;let y=(p p)*;let z=b p+q;let w=(p+q)*;");
        ASKED.given("both(0, 1, 0)", j, j.both(0, 1, 0), 2);
        ASKED.given("both(0, 1, 1)", j, j.both(0, 1, 1), 0);
        ASKED.given("both(0, 1, 2)", j, j.both(0, 1, 2), 8);
        ASKED.given("both(1, 0, 12)", j, j.both(1, 0, 12), 1 << 13);
        ASKED.given("both(0, 2, 1)", j, j.both(0, 2, 1), 2);
        ASKED.given("both(2, 3, 1)", j, j.both(2, 3, 1), 6);
        ASKED.given("both(3, 3, 12)", j, j.both(3, 3, 12), 1L << 25);
        ASKED.denied("both(0, 1, 13)", j, j.both(0, 1, 13), 1);
        ASKED.denied("both(0, 1, -1)", j, j.both(0, 1, -1), 1);
        ASKED.denied("both(0, 4, 13)", j, j.both(0, 4, 13), 1);
        ASKED.denied("both(0, 4, 0)", j, j.both(0, 4, 0), 2);
        ASKED.denied("both(-1, 0, 0)", j, j.both(-1, 0, 0), 2);
    }

    private static void rests() {
        ASKED.part("23, 24 rests, rest");
        TestJudge j = Asked.told("tests b;acts p q;let x=p q b+q q b;let y=(p q)*;let z=p 0;let w=1;let v=p;zero q !b;");
        // Behind q it can't go on with !b, as it can behind p; behind both of them and q it is b.
        ASKED.given("rests(0)", j, j.rests(0), 4);
        ASKED.given("rest(0, 0)", j, j.rest(0, 0), 0);
        ASKED.given("rest(0, 1)", j, j.rest(0, 1), 0);
        ASKED.given("rest(0, 2)", j, j.rest(0, 2), 0);
        ASKED.given("rest(0, 3)", j, j.rest(0, 3), 2);
        // Behind p q it is 1 with b, which is not what it is behind nothing.
        ASKED.given("rests(1)", j, j.rests(1), 3);
        ASKED.given("rest(1, 0)", j, j.rest(1, 0), 3);
        ASKED.given("rest(1, 2)", j, j.rest(1, 2), 2);
        ASKED.given("rests(2)", j, j.rests(2), 0);
        ASKED.denied("rest(2, 0)", j, j.rest(2, 0), 5);
        ASKED.given("rests(3)", j, j.rests(3), 1);
        ASKED.given("rests(4)", j, j.rests(4), 2);
        ASKED.denied("rests(5)", j, j.rests(5), 2);
        ASKED.denied("rest(5, 0)", j, j.rest(5, 0), 2);
        ASKED.denied("rest(0, 4)", j, j.rest(0, 4), 5);
        ASKED.denied("rest(0, -1)", j, j.rest(0, -1), 5);
        j.assume(0, false);
        ASKED.given("rests(1), not assumed", j, j.rests(1), 2);
        ASKED.given("rests(0), not assumed", j, j.rests(0), 3);
    }

    private static void next() {
        ASKED.part("25 next");
        // Rests: 0, behind !b q 1, behind b p 2, and behind that 3, which is 1 behind q.
        TestJudge j = Asked.told("tests b;acts p q;let x=b p p b+!b q;");
        ASKED.given("rests(0)", j, j.rests(0), 4);
        ASKED.given("next(0, 0, 0, 1)", j, j.next(0, 0, 0, 1), 1);
        ASKED.given("next(0, 0, 1, 0)", j, j.next(0, 0, 1, 0), 2);
        ASKED.given("next(0, 2, 0, 0)", j, j.next(0, 2, 0, 0), 3);
        ASKED.given("next(0, 2, 1, 0)", j, j.next(0, 2, 1, 0), 3);
        ASKED.given("rest(0, 1)", j, j.rest(0, 1), 3);
        ASKED.given("rest(0, 3)", j, j.rest(0, 3), 2);
        ASKED.denied("next(0, 0, 0, 0): empty", j, j.next(0, 0, 0, 0), 5);
        ASKED.denied("next(0, 1, 0, 0): empty", j, j.next(0, 1, 0, 0), 5);
        ASKED.denied("next(0, 4, 0, 0)", j, j.next(0, 4, 0, 0), 5);
        ASKED.denied("next(0, -1, 0, 0)", j, j.next(0, -1, 0, 0), 5);
        ASKED.denied("next(1, 0, 0, 0)", j, j.next(1, 0, 0, 0), 2);
        ASKED.denied("next(0, 0, 2, 0)", j, j.next(0, 0, 2, 0), 2);
        ASKED.denied("next(0, 9, -1, 0)", j, j.next(0, 9, -1, 0), 2);
        ASKED.denied("next(0, 9, 0, 2)", j, j.next(0, 9, 0, 2), 2);
        ASKED.denied("next(0, 0, 0, -1)", j, j.next(0, 0, 0, -1), 2);
    }

    private static void clear() {
        ASKED.part("26 clear");
        TestJudge j = Asked.told("tests b;acts p q;let x=while b do p end;let y=p*;let z=p+q;let w=p+q 0;let v=0;"
                + "let u=if b then p else q end;let t=b p+b q;zero p b q;");
        int[] clear = {1, 0, 0, 1, 1, 1, 0};
        for (int i = 0; i < clear.length; i++) {
            ASKED.given("clear(" + i + ")", j, j.clear(i), clear[i]);
        }
        ASKED.denied("clear(7)", j, j.clear(7), 2);
        ASKED.denied("clear(-1)", j, j.clear(-1), 2);
        TestJudge k = Asked.told("tests b;acts p q;let x=p+q;zero b q;zero !b p;");
        ASKED.given("clear by facts", k, k.clear(0), 1);
    }

    private static void far() {
        ASKED.part("27 far");
        TestJudge j = Asked.told("tests b;acts p q;let x=b p p p+!b q p;let y=p p*+1;");
        // Rests: behind nothing, q (as p p), p, q p.
        int[] far = {0, 1, 1, 2};
        ASKED.given("rests(0)", j, j.rests(0), 4);
        for (int k = 0; k < far.length; k++) {
            ASKED.given("far(0, " + k + ")", j, j.far(0, k), far[k]);
        }
        ASKED.given("far(1, 0)", j, j.far(1, 0), 0);
        ASKED.denied("far(1, 1)", j, j.far(1, 1), 5);
        ASKED.denied("far(1, -1)", j, j.far(1, -1), 5);
        ASKED.denied("far(2, 0)", j, j.far(2, 0), 2);
    }

    private static void right() {
        ASKED.part("28 right");
        TestJudge j = Asked.told("tests b;acts p;let x=while b do p end;let y=b p !b+!b;let z=0;let w=p b;zero b p !b;");
        ASKED.given("right(3, 0, 1)", j, j.right(3, 0, 1), 1);
        ASKED.given("right(3, 0, 2)", j, j.right(3, 0, 2), 0);
        ASKED.given("right(0, 0, 0)", j, j.right(0, 0, 0), 1);
        // From b on nothing comes to !b, so from b there is no string at all.
        ASKED.given("right(2, 0, 0)", j, j.right(2, 0, 0), 1);
        ASKED.given("right(3, 2, 0)", j, j.right(3, 2, 0), 1);
        ASKED.given("right(3, 3, 2)", j, j.right(3, 3, 2), 1);
        ASKED.given("right(1, 3, 1)", j, j.right(1, 3, 1), 0);
        j.assume(0, false);
        ASKED.given("right(2, 0, 0), not assumed", j, j.right(2, 0, 0), 0);
        ASKED.denied("right(4, 0, 0)", j, j.right(4, 0, 0), 1);
        ASKED.denied("right(0, 0, 4)", j, j.right(0, 0, 4), 1);
        ASKED.denied("right(-1, 9, 0)", j, j.right(-1, 9, 0), 1);
        ASKED.denied("right(0, 9, -1)", j, j.right(0, 9, -1), 1);
        ASKED.denied("right(0, 4, 0)", j, j.right(0, 4, 0), 2);
    }

    private static void weakestAndStrongest() {
        ASKED.part("29, 30 weakest, strongest");
        TestJudge j = Asked.told("tests b c;acts p;let x=b p c+!b;let y=0;let z=p;zero b c;");
        // Atoms 0, 1 (b), 2 (c), 3 (both, forbidden): from 1 to 2, from 0 to 0, from 2 to 2.
        ASKED.given("weakest(0, 0)", j, j.weakest(0, 0), 8);
        ASKED.given("weakest(0, 4)", j, j.weakest(0, 4), 2 | 4 | 8);
        ASKED.given("weakest(0, 1)", j, j.weakest(0, 1), 1 | 8);
        ASKED.given("weakest(0, 15)", j, j.weakest(0, 15), 15);
        ASKED.given("weakest(1, 0)", j, j.weakest(1, 0), 15);
        ASKED.given("weakest(2, 7)", j, j.weakest(2, 7), 15);
        ASKED.given("weakest(2, 3)", j, j.weakest(2, 3), 8);
        ASKED.given("strongest(15, 0)", j, j.strongest(15, 0), 5);
        ASKED.given("strongest(2, 0)", j, j.strongest(2, 0), 4);
        ASKED.given("strongest(8, 2)", j, j.strongest(8, 2), 0);
        ASKED.given("strongest(1, 2)", j, j.strongest(1, 2), 7);
        ASKED.given("strongest(0, 2)", j, j.strongest(0, 2), 0);
        ASKED.denied("weakest(0, 16)", j, j.weakest(0, 16), 1);
        ASKED.denied("weakest(9, -1)", j, j.weakest(9, -1), 1);
        ASKED.denied("weakest(3, 0)", j, j.weakest(3, 0), 2);
        ASKED.denied("strongest(16, 0)", j, j.strongest(16, 0), 1);
        ASKED.denied("strongest(-1, 9)", j, j.strongest(-1, 9), 1);
        ASKED.denied("strongest(0, -1)", j, j.strongest(0, -1), 2);
    }

    private static void keeps() {
        ASKED.part("31 keeps");
        // One step each: 0 to 1, 1 to 2, 2 to 3, and 3 stays.
        TestJudge j = Asked.told("tests b c;acts p;let x=!b !c p b !c+b !c p !b c+!b c p b c+b c;let y=p;");
        ASKED.given("keeps(0, 15)", j, j.keeps(0, 15), 15);
        ASKED.given("keeps(0, 7)", j, j.keeps(0, 7), 0);
        ASKED.given("keeps(0, 11)", j, j.keeps(0, 11), 8);
        ASKED.given("keeps(0, 14)", j, j.keeps(0, 14), 14);
        ASKED.given("keeps(0, 0)", j, j.keeps(0, 0), 0);
        ASKED.given("keeps(1, 7)", j, j.keeps(1, 7), 0);
        ASKED.given("keeps(1, 15)", j, j.keeps(1, 15), 15);
        ASKED.denied("keeps(0, 16)", j, j.keeps(0, 16), 1);
        ASKED.denied("keeps(9, -1)", j, j.keeps(9, -1), 1);
        ASKED.denied("keeps(2, 0)", j, j.keeps(2, 0), 2);
    }

    private static void needs() {
        ASKED.part("32 needs");
        TestJudge j = Asked.told("tests b;acts p q;zero b p;zero b q;let x=b p;let y=b q;let z=0;let w=p;let v=b(p+q);");
        ASKED.given("needs(0, 2)", j, j.needs(0, 2), 1);
        ASKED.given("needs(1, 2)", j, j.needs(1, 2), 2);
        ASKED.given("needs(0, 1)", j, j.needs(0, 1), 3);
        ASKED.given("needs(4, 2)", j, j.needs(4, 2), 3);
        ASKED.given("needs(2, 2)", j, j.needs(2, 2), 0);
        ASKED.denied("needs(2, 3)", j, j.needs(2, 3), 5);
        j.assume(0, false);
        ASKED.denied("needs(0, 2), not assumed", j, j.needs(0, 2), 5);
        ASKED.given("needs(4, 0)", j, j.needs(4, 0), 2);
        ASKED.denied("needs(5, 0)", j, j.needs(5, 0), 2);
        ASKED.denied("needs(0, -1)", j, j.needs(0, -1), 2);
        TestJudge k = Asked.told("tests b;acts p;zero b p;zero b;let x=b p;let y=0;");
        ASKED.given("either would do", k, k.needs(0, 1), 0);
    }

    private static void fewest() {
        ASKED.part("33 fewest");
        TestJudge j = Asked.told("tests b;acts p q;zero b p;zero b q;let x=b p;let y=b q;let z=0;let w=p;let v=b(p+q);");
        for (int round = 0; round < 2; round++) {
            ASKED.given("fewest(0, 2)", j, j.fewest(0, 2), 1);
            ASKED.given("fewest(1, 2)", j, j.fewest(1, 2), 2);
            ASKED.given("fewest(4, 2)", j, j.fewest(4, 2), 3);
            ASKED.given("fewest(3, 3)", j, j.fewest(3, 3), 0);
            ASKED.denied("fewest(2, 3)", j, j.fewest(2, 3), 5);
            j.assume(0, false);
        }
        ASKED.given("it assumes nothing", j, j.many(5), 2);
        ASKED.denied("fewest(5, 0)", j, j.fewest(5, 0), 2);
        ASKED.denied("fewest(0, -1)", j, j.fewest(0, -1), 2);
        TestJudge k = Asked.told("tests b;acts p;zero b p;zero b;let x=b p;let y=0;");
        ASKED.given("of several the least", k, k.fewest(0, 1), 1);
    }

    private static void walk() {
        ASKED.part("34, 35, 36 walk, step, walked");
        TestJudge j = Asked.told("tests b;acts p q;let z=0;let x=b p p b+!b q;let y=p*;");
        ASKED.denied("walked(0)", j, j.walked(0), 5);
        ASKED.denied("step(0, 0)", j, j.step(0, 0), 5);
        ASKED.denied("step(2, 0)", j, j.step(2, 0), 2);
        ASKED.denied("walk(0)", j, j.walk(0), 5);
        ASKED.denied("walk(3)", j, j.walk(3), 2);
        ASKED.given("walk(1)", j, j.walk(1), 4);
        walked(j, 1, 0, 0, 0);
        ASKED.given("step(1, 0)", j, j.step(1, 0), 2);
        walked(j, 1, 1, 2, 0);
        ASKED.denied("step(0, 1)", j, j.step(0, 1), 5);
        ASKED.denied("step(0, 2)", j, j.step(0, 2), 2);
        ASKED.denied("step(-1, 0)", j, j.step(-1, 0), 2);
        walked(j, 1, 1, 2, 0);
        ASKED.given("step(0, 0)", j, j.step(0, 0), 3);
        walked(j, 1, 2, 3, 2);
        ASKED.denied("walk(0): it stays", j, j.walk(0), 5);
        walked(j, 1, 2, 3, 2);
        // Calls about another program leave it alone.
        j.rests(2);
        j.telling(1, 2, 0);
        j.print(2);
        walked(j, 1, 2, 3, 2);
        ASKED.denied("step(0, 0) at its end", j, j.step(0, 0), 5);
        ASKED.denied("walked(4)", j, j.walked(4), 1);
        ASKED.denied("walked(-1)", j, j.walked(-1), 1);
        ASKED.given("walk(2)", j, j.walk(2), 1);
        for (int i = 1; i <= 40; i++) {
            ASKED.given("step", j, j.step(i % 2, 0), 0);
            walked(j, 2, i, 0, 3);
        }
    }

    private static void walked(TestJudge j, int program, int acts, int rest, int ends) {
        ASKED.given("walked(0)", j, j.walked(0), program);
        ASKED.given("walked(1)", j, j.walked(1), acts);
        ASKED.given("walked(2)", j, j.walked(2), rest);
        ASKED.given("walked(3)", j, j.walked(3), ends);
    }

    private static void walkEnds() {
        ASKED.part("36 walks end");
        TestJudge j = Asked.told("tests b;acts p;zero b p b;let x=p*;let y=p p p;");
        j.walk(0);
        j.make(9, 0, 0, 0);
        j.make(0, 1, 1, 0);
        j.drop(7);
        j.assume(0, true);
        j.undo();
        j.load(-1);
        Asked.load(j, "let");
        walked(j, 0, 0, 0, 3);
        j.make(0, 0, 0, 0);
        ASKED.denied("behind make()", j, j.walked(0), 5);
        j.walk(2);
        j.undo();
        ASKED.denied("behind undo()", j, j.walked(0), 5);
        j.walk(0);
        j.assume(0, false);
        ASKED.denied("behind assume()", j, j.walked(0), 5);
        j.walk(0);
        j.drop(1);
        ASKED.denied("behind drop()", j, j.walked(0), 5);
        j.walk(0);
        Asked.load(j, "let x=1;");
        ASKED.denied("behind load()", j, j.walked(0), 5);
    }

    private static void make() {
        ASKED.part("37 make");
        TestJudge j = Asked.told("tests b c;acts p q;let x=p;let y=q q;let w=p+q q;");
        ASKED.given("make sum", j, j.make(0, 0, 1, 0), 3);
        ASKED.given("it", j, j.equal(3, 2), 1);
        ASKED.given("its weight", j, j.program(3, 0), 3);
        ASKED.given("make row", j, j.make(1, 0, 1, 0), 4);
        ASKED.given("p q q", j, j.count(4, 3), 256);
        ASKED.given("from p", j, j.first(4, 1), 0);
        ASKED.given("to q", j, j.first(4, 3), 1);
        ASKED.given("make star", j, j.make(2, 1, 0, 99), 5);
        ASKED.given("its weight", j, j.program(5, 0), 2);
        ASKED.given("its atoms", j, j.atoms(5), 15);
        ASKED.denied("no greatest", j, j.greatest(5), 5);
    }

    private static void layers() {
        ASKED.part("37 weights, layers");
        TestJudge j = Asked.told("tests b c;acts p q;let x=p;let y=q q;let z=1;");
        ASKED.given("make if", j, j.make(3, 0, 1, 1), 3);
        ASKED.given("with c p", j, j.within(0, 3), 0);
        ASKED.given("begins", j, j.uses(3, 0), 15);
        ASKED.given("its weight", j, j.program(3, 0), 3);
        ASKED.given("c: p", j, j.count(3, 1), 8);
        ASKED.given("else q q", j, j.count(3, 2), 32);
        ASKED.given("make while", j, j.make(4, 1, 0, 0), 4);
        ASKED.given("its weight", j, j.program(4, 0), 2);
        ASKED.given("its atoms", j, j.atoms(4), 5);
        ASKED.given("it ends", j, j.uses(4, 1), 5);
        ASKED.denied("make(5, ..)", j, j.make(5, 9, 0, 0), 1);
        ASKED.denied("make(-1, ..)", j, j.make(-1, 0, 0, 0), 1);
        ASKED.denied("no such first", j, j.make(0, 5, 0, 0), 2);
        ASKED.denied("no such other, though *", j, j.make(2, 0, 5, 0), 2);
        ASKED.denied("no such other, though while", j, j.make(4, 0, -1, 0), 2);
        ASKED.denied("no such test, if", j, j.make(3, 0, 0, 2), 2);
        ASKED.denied("no such test, while", j, j.make(4, 0, 0, -1), 2);
        ASKED.given("weight 5", j, j.make(1, 3, 1, 0), 5);
        ASKED.denied("weight 6", j, j.make(1, 3, 3, 0), 3);
        ASKED.given("weight 5 starred", j, j.make(2, 5, 5, 0), 6);
        ASKED.given("the eighth", j, j.make(0, 2, 2, 0), 7);
        ASKED.denied("the ninth", j, j.make(0, 2, 2, 0), 3);
        TestJudge k = Asked.told("tests b;acts p;let x=b;let y=p;");
        for (int i = 2; i < 8; i++) {
            ASKED.given("layer", k, k.make(2, i == 2 ? 0 : i - 1, 0, 0), i);
        }
        k.drop(0);
        // Six layers are there at number 6 now; a seventh is too many, but not in what stands aside.
        ASKED.denied("layer 7", k, k.make(2, 6, 0, 0), 3);
        ASKED.denied("layer 7 of the other", k, k.make(0, 0, 6, 0), 3);
        ASKED.given("layer 1 beside it", k, k.make(2, 0, 6, 0), 7);
        // Layers go with their programs when numbers change, and come back with them.
        k.drop(0);
        k.drop(6);
        k.drop(0);
        k.undo();
        ASKED.denied("layer 7 of number 5", k, k.make(2, 5, 5, 0), 3);
        ASKED.given("layer 6 of number 4", k, k.make(2, 4, 4, 0), 6);
        for (int i = 0; i < 5; i++) {
            k.drop(0);
        }
        ASKED.denied("layer 7 of number 0", k, k.make(2, 0, 0, 0), 3);
        k.drop(0);
        k.drop(0);
        k.drop(0);
        ASKED.given("nine actions, of which 8 are kept", k, k.many(6), 8);
        while (k.many(6) > 0) {
            k.undo();
        }
        int last = k.many(2) - 1;
        ASKED.denied("layer 7 of the last", k, k.make(2, last, last, 0), 3);
        ASKED.given("layer 6 of the one ahead", k, k.make(2, last - 1, last, 0), last + 1);
    }

    private static void drop() {
        ASKED.part("38 drop");
        TestJudge j = Asked.told("tests b;acts p q;let x=p;let y=x q;let z=x b;let w=0;");
        ASKED.given("make", j, j.make(1, 0, 0, 0), 4);
        ASKED.given("drop(0)", j, j.drop(0), 4);
        ASKED.given("x q", j, j.program(0, 0), 2);
        ASKED.given("what was made of it stays", j, j.count(3, 2), 8);
        ASKED.given("x b", j, j.count(1, 1), 2);
        ASKED.denied("drop(4)", j, j.drop(4), 2);
        ASKED.denied("drop(-1)", j, j.drop(-1), 2);
        ASKED.given("drop(3)", j, j.drop(3), 3);
        ASKED.denied("count(3, 2)", j, j.count(3, 2), 2);
        ASKED.given("drop", j, j.drop(0), 2);
        ASKED.given("drop", j, j.drop(0), 1);
        ASKED.given("drop", j, j.drop(0), 0);
        ASKED.denied("drop", j, j.drop(0), 2);
        ASKED.given("many(2)", j, j.many(2), 0);
    }

    private static void assume() {
        ASKED.part("39 assume");
        TestJudge j = Asked.told("tests b;acts p;zero b;zero p !b;let x=p;");
        ASKED.denied("all are at first", j, j.assume(0, true), 4);
        ASKED.given("no string", j, j.count(0, 1), 0);
        ASKED.given("assume(0, false)", j, j.assume(0, false), 1);
        ASKED.given("two", j, j.count(0, 1), 2);
        ASKED.given("assume(1, false)", j, j.assume(1, false), 0);
        ASKED.given("four", j, j.count(0, 1), 4);
        ASKED.denied("assume(1, false)", j, j.assume(1, false), 4);
        ASKED.given("assume(0, true)", j, j.assume(0, true), 1);
        ASKED.given("one", j, j.count(0, 1), 1);
        ASKED.given("many(6)", j, j.many(6), 3);
        ASKED.denied("assume(2, true)", j, j.assume(2, true), 2);
        ASKED.denied("assume(-1, false)", j, j.assume(-1, false), 2);
    }

    private static void undo() {
        ASKED.part("40 undo");
        TestJudge j = Asked.told("tests b;acts p;zero b p;let x=p;let y=b;let z=1;");
        ASKED.denied("undo()", j, j.undo(), 5);
        j.drop(1);
        j.make(2, 0, 0, 0);
        j.assume(0, false);
        ASKED.given("undo assume", j, j.undo(), 2);
        ASKED.given("assumed", j, j.many(5), 1);
        ASKED.given("undo make", j, j.undo(), 1);
        ASKED.given("many(2)", j, j.many(2), 2);
        ASKED.given("undo drop", j, j.undo(), 0);
        ASKED.given("many(2)", j, j.many(2), 3);
        ASKED.given("y is back", j, j.atoms(1), 2);
        ASKED.given("z is behind it", j, j.atoms(2), 3);
        ASKED.denied("undo()", j, j.undo(), 5);
        for (int i = 0; i < 5; i++) {
            j.assume(0, false);
            j.assume(0, true);
        }
        ASKED.given("8 are kept", j, j.many(6), 8);
        for (int i = 7; i >= 0; i--) {
            ASKED.given("undo", j, j.undo(), i);
        }
        ASKED.denied("undo a ninth", j, j.undo(), 5);
        ASKED.given("assumed", j, j.many(5), 1);
        // What was undone and done anew is one action, and load() forgets all.
        j.make(0, 0, 0, 0);
        j.undo();
        j.make(0, 1, 1, 0);
        ASKED.given("many(6)", j, j.many(6), 1);
        Asked.load(j, "let ?");
        ASKED.given("a faulty load keeps them", j, j.many(6), 1);
        Asked.load(j, "let x=1;");
        ASKED.given("a good one does not", j, j.many(6), 0);
        // A program that comes back has its layers.
        TestJudge k = Asked.told("let x=1;");
        for (int i = 1; i < 7; i++) {
            k.make(2, i - 1, 0, 0);
        }
        k.drop(6);
        k.undo();
        ASKED.denied("layer 7", k, k.make(2, 6, 0, 0), 3);
    }

    private static void print() {
        ASKED.part("41 print");
        TestJudge j = Asked.told("tests b;acts p q;let x=b p p b+!b q;let y=0;let z=1;let w=(p+q)*;");
        String[] tables = {"0:0 0b1 1a2;1:3;2:0 0a3 1a3;3:2;", "", "0:3;", "0:3 0a0 0b0 1a0 1b0;"};
        for (int i = 0; i < tables.length; i++) {
            String printed = Asked.printed(j, i);
            ASKED.given("length " + i, j, j.print(i), tables[i].length());
            ASKED.due("is " + printed, printed.equals(tables[i]) ? 1 : 0, 1);
        }
        ASKED.denied("print(4)", j, j.print(4), 2);
        ASKED.denied("print(-1)", j, j.print(-1), 2);
        TestJudge k = Asked.told("tests b c d;acts p;zero !c p (c+!d b) p (b+!d);"
                + "let v=((b+!d)p p(c+!d b)p p!c+d p(!b+c d))*;let w=d;");
        k.print(1);
        ASKED.given("rests", k, k.rests(0), 88);
        ASKED.denied("more than 60", k, k.print(0), 3);
        ASKED.due("OUT stays", k.out(2), '2');
        TestJudge sixty = Asked.told("tests b c d;acts p;zero b p 1 p d;let x=(!c p+p p p(b+!d)p)*;let y=!b c+b !c d;");
        ASKED.given("rests", sixty, sixty.rests(0), 60);
        ASKED.due("60 are printed", sixty.print(0) > 0 ? 1 : 0, 1);
        TestJudge more = Asked.told("tests b c d;acts p;zero c p (c+!d b) p (b+!d);let x=(p p p p+!d p !c)*;");
        ASKED.given("rests", more, more.rests(0), 61);
        ASKED.denied("61 are not", more, more.print(0), 3);
        ASKED.due("a hundred", Asked.printed(sixty, 1).equals("0:100;") ? 1 : 0, 1);
        TestJudge m = Asked.told("tests b c d;acts p;let x=(p (b p+c p) d p !c+p !b)*;let y=p b p p c p p;");
        ASKED.given("many rests", m, m.rests(1), 6);
        String table = Asked.printed(m, 1);
        ASKED.due("starts", table.startsWith("0:0 0a1 1a1 2a1 3a1 4a1 5a1 6a1 7a1;1:0 1a2 3a2 5a2 7a2;") ? 1 : 0, 1);
        ASKED.due("ends", table.endsWith("5:255;") ? 1 : 0, 1);
    }

    private static void out() {
        ASKED.part("42 out");
        TestJudge j = Asked.told("let x=1;let y=0;");
        ASKED.due("none yet", thrown(j, 0), 1);
        j.print(0);
        String want = "0:1;";
        for (int i = 0; i < 4; i++) {
            ASKED.due("out(" + i + ")", j.out(i), want.charAt(i));
        }
        ASKED.due("out(4)", thrown(j, 4), 1);
        ASKED.due("out(-1)", thrown(j, -1), 1);
        ASKED.due("out(greatest)", thrown(j, Integer.MAX_VALUE), 1);
        ASKED.due("out(least)", thrown(j, Integer.MIN_VALUE), 1);
        j.print(9);
        ASKED.due("out(0) stays", j.out(0), '0');
        j.print(1);
        ASKED.due("out(0) of an empty one", thrown(j, 0), 1);
    }

    private static int thrown(TestJudge j, int i) {
        try {
            j.out(i);
            return 0;
        } catch (NoSuchElementException none) {
            return 1;
        }
    }

    private static void forbidden() {
        ASKED.part("forbidden strings");
        // q may not come right behind p.
        TestJudge j = Asked.told("tests b;acts p q;zero p q;let x=(p+q)*;let y=q* p*;let z=q p;let w=p q;");
        ASKED.given("equal(0, 1)", j, j.equal(0, 1), 1);
        ASKED.given("count(0, 2)", j, j.count(0, 2), 24);
        ASKED.given("count(2, 2)", j, j.count(2, 2), 8);
        ASKED.given("count(3, 2)", j, j.count(3, 2), 0);
        ASKED.given("rests(0)", j, j.rests(0), 2);
        TestJudge k = Asked.told("tests b;acts p;zero b p* b p b;let x=p*;");
        // With none of p*, b p b is forbidden by itself.
        ASKED.given("count(0, 1)", k, k.count(0, 1), 3);
    }
}
