/** Boundary cases of what a text may tell (==== 1): how many, names, what is open, what is plain, weights. */
public final class FaultEdgesTest {
    private static final Asked ASKED = new Asked("FaultEdgesTest");
    private static final Edges EDGES = new Edges(ASKED);
    private static final String EIGHT = "let a=1;let b=1;let c=1;let d=1;let e=1;let f=1;let g=1;let h=1;";

    public static void main(String[] args) throws IllegalAccessException {
        EDGES.run(FaultEdgesTest.class);
    }

    private static void fault(String text, int kind, int place) {
        EDGES.fault(text, kind, place);
    }

    private static TestJudge fine(String text, int programs) {
        return EDGES.fine(text, programs);
    }

    // ---- how many

    static void terms1_threeTestsAndNotFour() {
        for (int n = 0; n <= 3; n++) {
            TestJudge j = fine(n == 0 ? "" : "tests b c d".substring(0, 5 + 2 * n) + ";", 0);
            ASKED.given("TESTS", j, j.many(0), n);
            ASKED.given("ATOMS", j, j.many(4), 1 << n);
        }
        fault("tests b c d e;", 4, 12);
        fault("tests b c d e f;", 4, 12);
    }

    static void terms1_threeActsAndNotFour() {
        for (int n = 0; n <= 3; n++) {
            TestJudge j = fine(n == 0 ? "" : "acts b c d".substring(0, 4 + 2 * n) + ";", 0);
            ASKED.given("ACTS", j, j.many(1), n);
        }
        fault("acts b c d e;", 4, 11);
        fault("acts b c d e f;", 4, 11);
    }

    static void terms1_testsAndActsOverSeveralLines() {
        TestJudge j = fine("tests b;acts p;tests c;acts q;tests d;acts r;", 0);
        ASKED.given("TESTS", j, j.many(0), 3);
        ASKED.given("ACTS", j, j.many(1), 3);
        fault("tests b;acts p;tests c;acts q;tests d;tests e;", 4, 44);
        fault("tests b;acts p;tests c;acts q r;tests d;acts s;", 4, 45);
        fault("tests b c;tests d e;", 4, 18);
        fault("acts b c;acts d e;", 4, 16);
    }

    static void terms1_threeTestsAreNoBarToActs() {
        fine("tests b c d;acts p q r;", 0);
        fine("acts p q r;tests b c d;", 0);
        fault("tests b c d;acts p q r s;", 4, 23);
        fault("acts p q r;tests b c d e;", 4, 23);
    }

    static void terms1_aFourthIsToldAtItsNameNotAtTheLine() {
        fault("tests b c d;tests;", 2, 17);
        fault("tests b c d;tests ?;", 1, 18);
        fault("acts b c d;acts;", 2, 15);
        fault("acts b c d;acts   e", 4, 18);
    }

    static void terms1_eightProgramsAndNotNine() {
        TestJudge j = fine(EIGHT, 8);
        ASKED.given("PROGRAMS", j, j.many(2), 8);
        fault(EIGHT + "let i=1;", 4, 64);
        fault(EIGHT + "\nlet i=1;", 4, 65);
    }

    static void terms1_aNinthProgramIsToldAtItsLetAheadOfAllElse() {
        fault(EIGHT + "let", 4, 64);
        fault(EIGHT + "let ?", 4, 64);
        fault(EIGHT + "let a", 4, 64);
        fault(EIGHT + "zero 0;let if", 4, 71);
    }

    static void terms1_twoFactsAndNotThree() {
        for (int n = 0; n <= 2; n++) {
            TestJudge j = fine("zero 0;zero 0;".substring(0, 7 * n), 0);
            ASKED.given("FACTS", j, j.many(3), n);
        }
        fault("zero 0;zero 0;zero 0;", 4, 14);
        fault("zero 0;let x=1;zero 0;let y=1;zero 0;", 4, 30);
    }

    static void terms1_aThirdFactIsToldAtItsZeroAheadOfAllElse() {
        fault("zero 0;zero 0;zero", 4, 14);
        fault("zero 0;zero 0; zero ?", 4, 15);
        fault("zero 0;zero 0;zero foo", 4, 14);
    }

    static void terms1_eightProgramsAreNoBarToFacts() {
        TestJudge j = fine(EIGHT + "zero 0;zero 0;", 8);
        ASKED.given("FACTS", j, j.many(3), 2);
        fine("zero 0;zero 0;" + EIGHT, 8);
    }

    static void terms1_numberedAsTheyAreTold() {
        TestJudge j = fine("tests b;acts p;tests c d;acts q;let x=b;let y=c;let z=d;let u=p;let v=q;", 5);
        int[] atoms = {2 + 8 + 32 + 128, 4 + 8 + 64 + 128, 16 + 32 + 64 + 128};
        for (int i = 0; i < 3; i++) {
            ASKED.given("atoms(" + i + ")", j, j.atoms(i), atoms[i]);
        }
        ASKED.given("ACT of u", j, j.first(3, 1), 0);
        ASKED.given("ACT of v", j, j.first(4, 1), 1);
        TestJudge k = fine("acts p;zero 0;let x=p;zero p p;let y=1;", 2);
        ASKED.given("weight of FACT 0", k, k.fact(0, 0), 0);
        ASKED.given("weight of FACT 1", k, k.fact(1, 0), 2);
        ASKED.given("weight of PROGRAM 0", k, k.program(0, 0), 1);
        ASKED.given("weight of PROGRAM 1", k, k.program(1, 0), 0);
    }

    static void terms1_testsAndActsTooLate() {
        fault("let x=1;tests b;", 2, 8);
        fault("let x=1;acts b;", 2, 8);
        fault("zero 0;tests b;", 2, 7);
        fault("zero 0;acts b;", 2, 7);
        fault("tests b;let x=1;tests b;", 2, 16);
        fault("acts b;zero b;acts c;", 2, 14);
        fine("tests b;acts c;tests d;let x=1;zero 0;let y=1;", 2);
    }

    // ---- names

    static void terms1_aNewNameThatIsTaken() {
        fault("tests b b;", 3, 8);
        fault("tests b;tests c b;", 3, 16);
        fault("tests b;acts b;", 3, 13);
        fault("acts b;tests b;", 3, 13);
        fault("acts b b;", 3, 7);
        fault("acts b;acts c b;", 3, 14);
        fault("tests b;let b=1;", 3, 12);
        fault("acts b;let b=1;", 3, 11);
        fault("let b=1;let b=1;", 3, 12);
        fault("let b=1;let c=1;let b=1;", 3, 20);
        fault("tests b c d;acts e f g;let d=1;", 3, 27);
        fault("tests b c d;acts e f g;let g=1;", 3, 27);
        fault("tests aaaaaa;acts aaaaaa;", 3, 18);
    }

    static void terms1_theLastOfEightNamesIsTaken() {
        String seven = EIGHT.substring(0, 56);
        fine(seven + "let h=a b c d e f g;", 8);
        fault(seven + "let g=1;", 3, 60);
        fine(seven + "let h=g;zero h;", 8);
    }

    static void terms1_namesAreFreeAgainInTheNextText() {
        TestJudge j = fine("tests b;acts p;let x=b p;", 1);
        ASKED.given("the same names for others", j, Asked.load(j, "tests x;acts b;let p=x b;"), 1);
        ASKED.denied("behind a fault", j, Asked.load(j, "tests c;acts q;let y=z;"), 9);
        ASKED.given("the same once more", j, Asked.load(j, "tests c;acts q;let y=c q;"), 1);
    }

    static void terms1_aNameThatIsNone() {
        fault("let x=b;", 3, 6);
        fault("zero b;", 3, 5);
        fault("tests b;acts p;let x=b p c;", 3, 25);
        fault("let x=x;", 3, 6);
        fault("let x=y;let y=1;", 3, 6);
        fault("let x=1+(0 y);", 3, 11);
        fault("let x=!y;", 3, 7);
        fault("let x=if y then 1 else 1 end;", 3, 9);
        fault("let x=while 1 do y end;", 3, 17);
        // Those of the text that was told ahead (a TEST k, an ACT m, a PROGRAM n) are none here.
        fault("let x=k;", 3, 6);
        fault("let x=m;", 3, 6);
        fault("let x=n;", 3, 6);
    }

    static void terms1_aProgramToldAheadIsAName() {
        fine("let x=1;let y=x;let z=x y;zero z;let u=z;", 4);
        fault("zero x;let x=1;", 3, 5);
    }

    // ---- what is open

    private static String repeat(String what, int times) {
        StringBuilder text = new StringBuilder();
        for (int i = 0; i < times; i++) {
            text.append(what);
        }
        return text.toString();
    }

    static void terms1_fourOpenOfEachKind() {
        fine("let x=((((1))));", 1);
        fine("let x=!!!!1;", 1);
        fine("let x=" + repeat("if 1 then 1 else ", 4) + "1" + repeat(" end", 4) + ";", 1);
        fine("let x=" + repeat("while 0 do ", 4) + "1" + repeat(" end", 4) + ";", 1);
        fine("let x=" + repeat("if ", 4) + "1" + repeat(" then 1 else 1 end", 4) + ";", 1);
        fine("let x=" + repeat("while ", 4) + "1" + repeat(" do 1 end", 4) + ";", 1);
    }

    static void terms1_theFifthOpenOfEachKind() {
        String[] outer = {"((((", "!!!!", "(!(!", repeat("if 1 then ", 4), repeat("if 1 then 1 else ", 4), repeat("if ", 4),
            repeat("while 1 do ", 4), repeat("while ", 4), "(!if while "};
        for (String four : outer) {
            for (String fifth : new String[] {"(", "!", "if", "while"}) {
                fault("let x=" + four + fifth, 4, 6 + four.length());
                fault("zero " + four + fifth + " 1", 4, 5 + four.length());
            }
            fault("let x=" + four + "1", 2, 7 + four.length());
        }
    }

    static void terms1_whatIsClosedIsNotOpen() {
        fault("let x=((((1))))((((1)(1)(", 2, 25);
        fault("let x=((((1))))((((1)(1)((", 4, 25);
        fine("let x=((((1)(1))(1))(1)(((1))))((((1))));", 1);
        fine("let x=!!!!1!!!!1+!!!!1!1;", 1);
        fine("let x=(((!1!1!1)!1)(!1));", 1);
        fine("let x=(((if 1 then 1 else 1 end(1)if 1 then 1 else 1 end)));", 1);
        fine("let x=(((while 1 do 1 end(1)while 1 do 1 end)));", 1);
        fine("let x=!(((1)(1))(1))((((1))));", 1);
    }

    static void terms1_aBangIsOpenTillItsBaseIsRead() {
        // Its stars, and what stands behind it, are no more of its BASE.
        fine("let x=(((!1*(1))));", 1);
        fine("let x=((!!1*!!1));", 1);
        fault("let x=((!!1*!!!1));", 4, 14);
        fault("let x=(((!(1))));", 4, 10);
        fault("let x=!(((( ", 4, 10);
        fine("let x=!(((1)));", 1);
        fine("let x=!1((((1))));", 1);
    }

    static void terms1_ifIsOpenTillItsEnd() {
        fine("let x=if((1))then((1))else((1))end((((1))));", 1);
        fine("let x=if(((1)))then(((1)))else(((1)))end;", 1);
        fault("let x=if((((", 4, 11);
        fault("let x=if 1 then((((", 4, 18);
        fault("let x=if 1 then 1 else((((", 4, 25);
    }

    static void terms1_whileIsOpenTillItsEnd() {
        fine("let x=while(((1)))do(((1)))end((((1))));", 1);
        fault("let x=while((((", 4, 14);
        fault("let x=while 1 do((((", 4, 19);
    }

    // ---- what is plain

    static void terms1_plainBehindBangIfWhile() {
        fine("tests b;let y=b+!b;let x=!0!1!b!y!(b y)!if b then y else 0 end!while b do y end;", 2);
        fine("tests b;let y=b*;let x=if b+y then 1 else 1 end while y(b)*do 1 end;", 2);
    }

    static void terms1_anActIsNotPlainWhereverItStands() {
        fault("acts p;let x=!p;", 5, 15);
        fault("acts p;let x=!(p);", 5, 17);
        fault("acts p;let x=!(0 p);", 5, 19);
        fault("acts p;let x=!(1+p 0);", 5, 21);
        fault("acts p;let x=!(p*);", 5, 18);
        fault("acts p;let x=!if 1 then p else 1 end;", 5, 36);
        fault("acts p;let x=!if 1 then 1 else p end;", 5, 36);
        fault("acts p;let x=!while 0 do p end;", 5, 30);
        fault("acts p;let x=!!(1+p);", 5, 20);
    }

    static void terms1_programsAreLookedInto() {
        fault("acts p;let y=p 0;let x=!y;", 5, 25);
        fault("acts p;let y=p;let z=y;let x=if z then 1 else 1 end;", 5, 34);
        fault("acts p;let y=0 p;let x=while y do 1 end;", 5, 31);
        fine("acts p;let y=1;let z=y;let x=!z;", 3);
    }

    static void terms1_notPlainIsToldAtTheFirstTokenBehind() {
        fault("acts p;let x=!p  *;", 5, 17);
        fault("acts p;let x=!p\n\n;", 5, 17);
        fault("acts p;let x=!p p;", 5, 16);
        fault("acts p;let x=(!p);", 5, 16);
        fault("acts p;let x=!p+1;", 5, 15);
        fault("acts p;let x=if p  then 1 else 1 end;", 5, 19);
        fault("acts p;let x=if 1 p * then 1 else 1 end;", 5, 22);
        fault("acts p;let x=while p  do 1 end;", 5, 22);
        fault("acts p;let x=while(p)do 1 end;", 5, 21);
    }

    static void terms1_notPlainAtTheEndOfTheText() {
        fault("acts p;let x=!p", 5, 15);
        fault("acts p;let x=!p ", 5, 16);
        fault("acts p;let x=if p", 5, 17);
        fault("acts p;let x=while p \n", 5, 22);
    }

    static void terms1_notPlainIsAheadOfAllElseThatIsWrongThere() {
        // No token (1), one that can't stand there (2), a name that is none (3).
        fault("acts p;let x=!p ?", 5, 16);
        fault("acts p;let x=!p aaaaaaa", 5, 16);
        fault("acts p;let x=!p )", 5, 16);
        fault("acts p;let x=!p =", 5, 16);
        fault("acts p;let x=!p end", 5, 16);
        fault("acts p;let x=!p foo", 5, 16);
        fault("acts p;let x=if p ?", 5, 18);
        fault("acts p;let x=if p )", 5, 18);
        fault("acts p;let x=if p do", 5, 18);
        fault("acts p;let x=while p ;", 5, 21);
        fault("acts p;let x=while p then", 5, 21);
        fault("acts p;let x=while p ?", 5, 21);
    }

    static void terms1_whatIsStillInTheSumIsAheadOfNotPlain() {
        fault("acts p;let x=if p foo then", 3, 18);
        fault("acts p;let x=if p + then", 2, 20);
        fault("acts p;let x=if p + ?", 1, 20);
        fault("acts p;let x=!(p ?", 1, 17);
        fault("acts p;let x=!(p ;", 2, 17);
        fault("acts p;let x=while p !foo", 3, 22);
        fault("acts p;let x=if p (((( ", 4, 21);
    }

    // ---- weights

    static void terms1_weight5AndNot6() {
        TestJudge j = fine("acts p q r;let x=p q r p q;", 1);
        ASKED.given("weight", j, j.program(0, 0), 5);
        fault("acts p q r;let x=p q r p q r;", 5, 28);
        fault("acts p q r;let x=p+q+r+p+q+r;", 5, 28);
        fault("acts p;let x=p p p p p p p p;", 5, 28);
        fault("acts p;let x=p p p p p p   \n;", 5, 28);
    }

    static void terms1_weightCountsEachActThatStands() {
        String[] sums = {"p", "0 p", "p*", "(p+p)*", "if 1 then p else p end", "while 1 do p p end 0", "!1 p"};
        int[] weights = {1, 1, 1, 2, 2, 2, 1};
        for (int i = 0; i < sums.length; i++) {
            TestJudge j = fine("acts p;let x=" + sums[i] + ";", 1);
            ASKED.given("weight of " + sums[i], j, j.program(0, 0), weights[i]);
        }
        fine("acts p;let x=if 1 then p p else p p p end;", 1);
        fault("acts p;let x=if 1 then p p p else p p p end;", 5, 43);
    }

    static void terms1_weightCountsProgramsEachTime() {
        TestJudge j = fine("acts p;let x=p p;let y=x x p;let z=y 1;", 3);
        ASKED.given("weight of y", j, j.program(1, 0), 5);
        ASKED.given("weight of z", j, j.program(2, 0), 5);
        fault("acts p;let x=p p;let y=x x x;", 5, 28);
        fault("acts p;let x=p p p p p;let y=x+p;", 5, 32);
        fault("acts p;let x=p p p p p;let y=x x;", 5, 32);
    }

    static void terms1_weightOfAllFactsTogether2AndNot3() {
        fine("acts p;zero p p;", 0);
        fine("acts p;zero p p;zero 1;", 0);
        fine("acts p;zero p;zero p;", 0);
        fine("acts p;zero 0;zero p+p;", 0);
        fault("acts p;zero p p p;", 5, 17);
        fault("acts p;zero p p;zero p;", 5, 22);
        fault("acts p;zero p;zero p p;", 5, 22);
        fault("acts p;let x=p p;zero x p;", 5, 25);
        fault("acts p;let x=p;zero x;zero x x;", 5, 30);
    }

    static void terms1_weightOfProgramsAndFactsApart() {
        fine("acts p;zero p p;let x=p p p p p;let y=x;", 2);
        fine("acts p;let x=p p p p p;zero p p;", 1);
    }

    static void terms1_aGreatWeightIsToldAtTheLinesEndAlone() {
        fault("acts p;let x=p p p p p p", 2, 24);
        fault("acts p;let x=p p p p p p ?", 1, 25);
        fault("acts p;let x=p p p p p p )", 2, 25);
        fault("acts p;let x=p p p p p p foo", 3, 25);
        fault("acts p;zero p p p", 2, 17);
        fault("acts p;zero p p p let x=1;", 2, 18);
    }

    // ---- which fault

    static void terms1_theFirstAlongTheText() {
        fault("? foo ;", 1, 0);
        fault("; ? foo", 2, 0);
        fault("let x=foo ? ;;", 3, 6);
        fault("let x=((((( ?", 4, 10);
        fault("acts p;let x=!p;let x=foo ?", 5, 15);
        fault("let x=1;let x=?", 3, 12);
        fault("let x=1 ? let x=1;", 1, 8);
    }

    static void terms1_ofOneTokenTheLeastKind() {
        // 1 ahead of 2: no token could stand here.
        fault("let ?", 1, 4);
        fault("let x aaaaaaa", 1, 6);
        fault("let x=1 ? 1;", 1, 8);
        // 2 ahead of 3: a fixed word is no name at all.
        fault("tests b;let tests=1;", 2, 12);
        // 2 ahead of 4.
        fault("tests b c d let;", 2, 12);
        fault("acts b c d ?;", 1, 11);
        // 3 ahead of 4.
        fault("tests b c d c;", 3, 12);
        fault("acts b c d d;", 3, 11);
        fault("tests b;acts c d e b;", 3, 19);
    }

    static void terms1_atItsTokensFirstByte() {
        fault("   let x=1;   tests b;", 2, 14);
        fault("let abcdef=1;let abcdef=1;", 3, 17);
        fault("let x= abcdef;", 3, 7);
        fault("tests b c d\n\n eeeeee;", 4, 14);
    }

    static void terms1_atTheEndTheTextsLength() {
        TestJudge j = new TestJudge();
        Asked.feed(j, "let x=1");
        ASKED.denied("load(7)", j, j.load(7), 9);
        ASKED.due("its place", j.fault(1), 7);
        Asked.feed(j, "let x=1");
        ASKED.denied("load(20), with blanks", j, j.load(20), 9);
        ASKED.due("its place", j.fault(1), 20);
    }
}
