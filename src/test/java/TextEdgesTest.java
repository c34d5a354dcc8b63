/** Boundary cases of the text, its limits and its faults (==== 1), and of promises 3 to 5. */
public final class TextEdgesTest {
    private static final Asked ASKED = new Asked("TextEdgesTest");
    private static final Edges EDGES = new Edges(ASKED);
    private static final int NONE = TestJudge.NONE;
    private static final String[] FIXED = {"tests", "acts", "let", "zero", "if", "then", "else", "while", "do", "end"};

    public static void main(String[] args) throws IllegalAccessException {
        EDGES.run(TextEdgesTest.class);
    }

    private static void fault(String text, int kind, int place) {
        EDGES.fault(text, kind, place);
    }

    private static TestJudge fine(String text, int programs) {
        return EDGES.fine(text, programs);
    }

    private static String padded(String start, char with, int length, String end) {
        StringBuilder text = new StringBuilder(start);
        while (text.length() + end.length() < length) {
            text.append(with);
        }
        return text.append(end).toString();
    }

    private static int feed(TestJudge judge, String five) {
        return Asked.feed(judge, five);
    }

    // ---- promise 3: feed

    static void promise03_feedFrom20To500() {
        TestJudge j = new TestJudge();
        for (int size = 20; size <= 500; size += 20) {
            ASKED.due("feed to " + size, j.feed(-1, 0, Integer.MAX_VALUE, Integer.MIN_VALUE, 1), size);
        }
    }

    static void promise03_feedAbove500GivesNone() {
        TestJudge j = new TestJudge();
        String text = padded("let x=1;", ' ', 500, "let y=0;");
        ASKED.due("feed to 500", feed(j, text), 500);
        for (int i = 0; i < 3; i++) {
            ASKED.due("feed to 520", j.feed('?' << 24, 0, 0, 0, 0), NONE);
        }
        ASKED.given("load(500): the tape is as it was", j, j.load(500), 2);
        ASKED.due("feed to 20 again", feed(j, "?"), 20);
    }

    static void promise03_feedAbove500ChangesNothing() {
        Edges.Setup full = j -> {
            Edges.withoutTape(j);
            feed(j, padded("let k=1;", ' ', 500, "let k=0;"));
        };
        EDGES.alike("feed() of a full tape", j -> {
            full.on(j);
            ASKED.due("feed()", j.feed(1, 2, 3, 4, 5), NONE);
        }, full);
    }

    static void promise03_feedHasNoStatus() {
        TestJudge j = new TestJudge();
        j.many(8);
        feed(j, "x");
        ASKED.due("status behind feed()", j.status(), 1);
        feed(j, padded("", ' ', 480, ""));
        ASKED.due("feed() above 500", feed(j, "x"), NONE);
        ASKED.due("status behind feed() with NONE", j.status(), 1);
        j.many(0);
        ASKED.due("feed() above 500", feed(j, "x"), NONE);
        ASKED.due("status behind feed() with NONE", j.status(), 0);
    }

    static void promise03_feedTheHighestByteOfEachIntFirst() {
        String text = "acts a;let b=a a+a;;";
        TestJudge j = new TestJudge();
        int[] w = new int[5];
        for (int i = 0; i < 20; i++) {
            w[i / 4] |= text.charAt(i) << 24 - 8 * (i % 4);
        }
        ASKED.due("feed()", j.feed(w[0], w[1], w[2], w[3], w[4]), 20);
        ASKED.given("load(19)", j, j.load(19), 1);
        ASKED.given("its weight", j, j.program(0, 0), 3);
    }

    static void promise03_feedBytesAbove127AreNoOthers() {
        // 0xe1 is no 0x61, 0xa0 no 0x20.
        for (int b = 128; b < 256; b++) {
            TestJudge j = new TestJudge();
            j.feed(b << 24 | b << 16 | b << 8 | b, 0, 0, 0, 0);
            ASKED.denied("load(1) of byte " + b, j, j.load(1), 9);
            ASKED.due("fault of byte " + b, j.fault(0), 1);
            ASKED.due("place of byte " + b, j.fault(1), 0);
        }
    }

    // ---- promise 4: load

    static void promise04_loadOfNoBytes() {
        TestJudge j = new TestJudge();
        ASKED.given("load(0) of an empty tape", j, j.load(0), 0);
        Asked.load(j, "tests b;acts p;let x=p;zero b;");
        feed(j, "let y=1;");
        ASKED.given("load(0) of a tape", j, j.load(0), 0);
        ASKED.denied("load(1): the tape is empty then", j, j.load(1), 1);
        int[] want = {0, 0, 0, 0, 1, 0, 0, 0};
        for (int what = 0; what < 8; what++) {
            ASKED.given("many(" + what + ")", j, j.many(what), want[what]);
        }
    }

    static void promise04_loadBelow0() {
        EDGES.refused("load(-1)", Edges::rich, j -> j.load(-1), 1);
        EDGES.refused("load(least)", Edges::rich, j -> j.load(Integer.MIN_VALUE), 1);
        EDGES.refused("load(-1) of a new one", Edges::empty, j -> j.load(-1), 1);
    }

    static void promise04_loadAboveWhatTheTapeHas() {
        EDGES.refused("load(21) of 20", Edges::rich, j -> j.load(21), 1);
        EDGES.refused("load(greatest)", Edges::rich, j -> j.load(Integer.MAX_VALUE), 1);
        EDGES.refused("load(1) of a new one", Edges::empty, j -> j.load(1), 1);
        EDGES.refused("load(501) of 500", j -> feed(j, padded("", ' ', 500, "")), j -> j.load(501), 1);
    }

    static void promise04_loadAllThatTheTapeHas() {
        TestJudge j = new TestJudge();
        feed(j, "let abcd=1;let e=0 ;");
        ASKED.denied("load(21)", j, j.load(21), 1);
        ASKED.given("load(20)", j, j.load(20), 2);
    }

    static void promise04_loadTheFirstBytesAlone() {
        String text = "let x=1;let y=1; ???";
        int[] programs = {0, 1, 1, 2, 2};
        int[] bytes = {0, 8, 8, 16, 17};
        for (int i = 0; i < bytes.length; i++) {
            TestJudge j = new TestJudge();
            feed(j, text);
            ASKED.given("load(" + bytes[i] + ")", j, j.load(bytes[i]), programs[i]);
        }
        TestJudge j = new TestJudge();
        feed(j, text);
        ASKED.denied("load(18)", j, j.load(18), 9);
        ASKED.due("place", j.fault(1), 17);
    }

    static void promise04_loadLeavesTheTapeEmpty() {
        TestJudge j = new TestJudge();
        feed(j, "let x=1;let y=1;");
        ASKED.given("load(8)", j, j.load(8), 1);
        ASKED.denied("load(1)", j, j.load(1), 1);
        ASKED.due("feed()", feed(j, "?"), 20);
        ASKED.denied("load(1) with a fault", j, j.load(1), 9);
        ASKED.denied("load(1) behind it", j, j.load(1), 1);
        ASKED.due("feed()", feed(j, " "), 20);
    }

    static void promise04_load500Bytes() {
        TestJudge j = fine(padded("acts p;let x=p", ' ', 500, ";"), 1);
        ASKED.given("its weight", j, j.program(0, 0), 1);
        fine(padded("let x=", '1', 500, ";"), 1);
        fine(padded("let x=1", '*', 500, ";"), 1);
        fine(padded("", ' ', 500, ""), 0);
        fault(padded("", ' ', 500, "?"), 1, 499);
        fault(padded("let x=", '1', 500, ""), 2, 500);
    }

    static void promise04_loadWithAFaultChangesNothingElse() {
        // The latest fault of the one that is set up is the same one, so that nothing at all may differ.
        EDGES.refused("load() with a fault", Edges::withoutTape, j -> Asked.load(j, "tests if;"), 9);
        EDGES.refused("load() with a fault late", j -> {
            Edges.withoutTape(j);
            Asked.load(j, "tests e f g;acts a;zero e;let h=a;let i=1;drop");
        }, j -> Asked.load(j, "tests n f g;acts a;zero f;let h=1;let i=a;wait"), 9);
    }

    static void promise04_loadHowManyPrograms() {
        fine("", 0);
        fine("tests b;zero b;", 0);
        StringBuilder text = new StringBuilder();
        for (int i = 1; i <= 8; i++) {
            text.append("let v").append((char) ('a' + i)).append("=1;");
            fine(text.toString(), i);
        }
    }

    static void promise04_loadTakesThePlaceOfAllThatWas() {
        TestJudge j = new TestJudge();
        Edges.rich(j);
        j.assume(1, false);
        j.walk(1);
        ASKED.given("many(6)", j, j.many(6), 4);
        ASKED.denied("load() of the tape", j, j.load(20), 9);
        ASKED.given("load()", j, Asked.load(j, "tests e;let x=e;zero !e;"), 1);
        int[] want = {1, 0, 1, 1, 2, 1, 0, 1};
        for (int what = 0; what < 8; what++) {
            ASKED.given("many(" + what + ")", j, j.many(what), want[what]);
        }
        ASKED.denied("walked(0)", j, j.walked(0), 5);
        ASKED.denied("undo()", j, j.undo(), 5);
        ASKED.denied("fact(1, 0)", j, j.fact(1, 0), 2);
        ASKED.denied("atoms(1)", j, j.atoms(1), 2);
        ASKED.given("atoms(0)", j, j.atoms(0), 2);
    }

    static void promise04_loadTheSameTextAgainIsNew() {
        TestJudge j = Asked.told("tests b;acts p;let x=p;zero b;");
        ASKED.given("rests(0)", j, j.rests(0), 2);
        j.assume(0, false);
        ASKED.given("count(0, 1)", j, j.count(0, 1), 4);
        Asked.load(j, "tests b;acts p;let x=p;zero b;");
        ASKED.given("many(5): all are assumed at first", j, j.many(5), 1);
        ASKED.given("count(0, 1)", j, j.count(0, 1), 1);
    }

    // ---- promise 5: fault

    static void promise05_faultAheadOfAny() {
        TestJudge j = new TestJudge();
        for (int what = -1; what <= 2; what++) {
            ASKED.due("fault(" + what + ")", j.fault(what), NONE);
        }
        feed(j, "?");
        j.load(21);
        j.load(-1);
        ASKED.due("fault(0) behind load() with STATUS 1", j.fault(0), NONE);
        ASKED.due("fault(1) behind load() with STATUS 1", j.fault(1), NONE);
    }

    static void promise05_faultOfTheLatestLoad() {
        TestJudge j = new TestJudge();
        j.load(0);
        ASKED.due("fault(0) without one", j.fault(0), 0);
        ASKED.due("fault(1) without one", j.fault(1), NONE);
        Asked.load(j, "?");
        ASKED.due("fault(0)", j.fault(0), 1);
        ASKED.due("fault(1) at the first byte", j.fault(1), 0);
        Asked.load(j, "let  ");
        ASKED.due("fault(0)", j.fault(0), 2);
        ASKED.due("fault(1) at the end", j.fault(1), 5);
        Asked.load(j, " ");
        ASKED.due("fault(0) without one again", j.fault(0), 0);
        ASKED.due("fault(1) without one again", j.fault(1), NONE);
    }

    static void promise05_faultStaysOverLoadWithStatus1() {
        TestJudge j = new TestJudge();
        Asked.load(j, " ?");
        feed(j, "let");
        j.load(-1);
        j.load(21);
        ASKED.due("fault(0)", j.fault(0), 1);
        ASKED.due("fault(1)", j.fault(1), 1);
        j.many(0);
        j.undo();
        ASKED.due("fault(0) behind other calls", j.fault(0), 1);
    }

    static void promise05_faultOfOthersIsNone() {
        TestJudge j = new TestJudge();
        Asked.load(j, "? ?");
        for (int what : new int[] {-1, 2, 3, Integer.MIN_VALUE, Integer.MAX_VALUE}) {
            ASKED.due("fault(" + what + ")", j.fault(what), NONE);
        }
    }

    static void promise05_faultHasNoStatus() {
        TestJudge j = new TestJudge();
        Asked.load(j, "?");
        j.fault(0);
        j.fault(9);
        ASKED.due("status", j.status(), 9);
        j.many(9);
        j.fault(1);
        ASKED.due("status", j.status(), 1);
    }

    // ---- ==== 1: tokens

    static void terms1_eachByteAtTheStart() {
        for (int b = 0; b < 256; b++) {
            TestJudge j = new TestJudge();
            j.feed(b << 24, 0, 0, 0, 0);
            boolean blank = b == 10 || b == 32;
            boolean token = b >= 'a' && b <= 'z' || "01+*!()=;".indexOf(b) >= 0;
            ASKED.due("load(1) of byte " + b, j.load(1), blank ? 0 : NONE);
            ASKED.due("fault of byte " + b, j.fault(0), blank ? 0 : token ? 2 : 1);
            ASKED.due("place of byte " + b, j.fault(1), blank ? NONE : 0);
        }
    }

    static void terms1_eachByteBehindAWord() {
        // A letter makes the word longer; behind the name of a test there may be ; alone, and a blank.
        for (int b = 0; b < 256; b++) {
            TestJudge j = new TestJudge();
            j.feed(0x74657374, 0x73206100 | b, 0x3b000000, 0, 0);
            boolean blank = b == 10 || b == 32;
            boolean letter = b >= 'a' && b <= 'z';
            boolean sign = "01+*!()=;".indexOf(b) >= 0;
            int want = blank || letter ? 0 : b == ';' ? 2 : sign ? 2 : 1;
            ASKED.due("load(9) of byte " + b, j.load(9), want == 0 ? 0 : NONE);
            ASKED.due("fault of byte " + b, j.fault(0), want);
            ASKED.due("place of byte " + b, j.fault(1), want == 0 ? NONE : b == ';' ? 8 : 7);
        }
    }

    static void terms1_wordsOf1To6Letters() {
        fine("tests a;", 0);
        fine("tests azazaz;acts zazaza;let abcdef=azazaz zazaza;", 1);
        fault("tests abcdefg;", 1, 6);
        fault("tests a bbbbbbb c;", 1, 8);
        fault("let x=aaaaaaa;", 1, 6);
        fault(padded("tests ", 'a', 500, ""), 1, 6);
    }

    static void terms1_wordsOfSixAreToldApartByEachLetter() {
        TestJudge j = fine("tests aaaaaa baaaaa aaaaab;acts aaabaa aaaaa a;let aa=aaaaaa baaaaa aaaaab;", 1);
        ASKED.given("atoms(0)", j, j.atoms(0), 1 << 7);
    }

    static void terms1_tokensAsLongAsTheyGo() {
        fine("tests testsa;acts lets;let ifa=lets testsa;let doend=if testsa then ifa else ifa end;", 2);
        fine("tests\nb\n;acts\n\np;let x=b!b(p)01*p+0;let y=x;", 2);
        fault("testsb;", 2, 0);
        fault("tests b acts p;", 2, 8);
        fine("tests bacts p;", 0);
        fault("let x=ifk then 1 else 1 end;", 3, 6);
        fault("letx=1;", 2, 0);
        fine("let x=11;let y=0011*!0;", 2);
    }

    static void terms1_blanksAre10And32Alone() {
        fine("\n let\n x =\n1 ;\n\n", 1);
        fault("let x=1;\t", 1, 8);
        fault("let x=1;\r\n", 1, 8);
        fault("let" + (char) 11 + "x=1;", 1, 3);
        fault("let" + (char) 9 + "x=1;", 1, 3);
        fault("let" + (char) 31 + "x=1;", 1, 3);
        fault("let" + (char) 160 + "x=1;", 1, 3);
        fault("let" + (char) 0 + "x=1;", 1, 3);
    }

    static void terms1_fixedWordsAreNoNames() {
        for (String word : FIXED) {
            fault("tests " + word + ";", 2, 6);
            fault("acts a " + word + ";", 2, 7);
            fault("let " + word + "=1;", 2, 4);
        }
    }

    static void terms1_wordsBesideTheFixedAreNames() {
        for (String word : FIXED) {
            if (word.length() < 6) {
                fine("tests " + word + "a;let x=" + word + "a;", 1);
                fine("let a" + word + "=1;let x=a" + word + ";", 2);
            }
            fine("acts " + word.substring(1) + ";let x=" + word.substring(1) + ";", 1);
        }
    }

    static void terms1_fixedWordsInASumThatCannotStand() {
        for (String word : FIXED) {
            boolean opens = word.equals("if") || word.equals("while");
            fault("let x=" + word + ";", 2, opens ? 6 + word.length() : 6);
            fault("let x=1 " + word + ";", 2, opens ? 8 + word.length() : 8);
        }
    }

    // ---- ==== 1: lines

    static void terms1_noLineAtAll() {
        fine("", 0);
        fine(" ", 0);
        fine("\n\n\n", 0);
    }

    static void terms1_aLineOfNoNames() {
        fault("tests;", 2, 5);
        fault("acts;", 2, 4);
        fault("tests b;tests ;", 2, 14);
        fault("tests", 2, 5);
        fault("acts \n", 2, 6);
    }

    static void terms1_aSumIsNotEmpty() {
        fault("let x=;", 2, 6);
        fault("zero;", 2, 4);
        fault("let x=();", 2, 7);
        fault("let x=1+;", 2, 8);
        fault("let x=+1;", 2, 6);
        fault("let x=1++1;", 2, 8);
        fault("let x=if then 1 else 1 end;", 2, 9);
        fault("let x=if 1 then else 1 end;", 2, 16);
        fault("let x=if 1 then 1 else end;", 2, 23);
        fault("let x=while do 1 end;", 2, 12);
        fault("let x=while 1 do end;", 2, 17);
        fault("let x=!;", 2, 7);
        fault("let x=!*;", 2, 7);
        fault("let x=*;", 2, 6);
    }

    static void terms1_aTextThatEndsTooEarly() {
        // Behind each whole token: what is missing is told at the text's length.
        endsTooEarly("let x = if 1 then 0 else ( 1 ) end ;");
        endsTooEarly("let x = while ! 1 do 0 * end + 1 ;");
        endsTooEarly("zero ! ( 1 1 ) ;");
        endsTooEarly("tests b ;");
        endsTooEarly("acts b ;");
    }

    private static void endsTooEarly(String text) {
        fine(text, text.startsWith("let") ? 1 : 0);
        for (int n = 1; n < text.length(); n++) {
            if (text.charAt(n) == ' ') {
                fault(text.substring(0, n), 2, n);
                fault(text.substring(0, n) + "  ", 2, n + 2);
            }
        }
    }

    static void terms1_aWordCutShortIsANameThatIsNone() {
        fault("le", 2, 0);
        fault("let x=i", 3, 6);
        fault("let x=if 1 the", 3, 11);
        fault("let x=if 1 then 1 e", 3, 18);
        fault("let x=while 1 d", 3, 14);
        fault("let x=while 1 do 1 en", 3, 19);
    }

    static void terms1_anyNumberOfStarsRowsAndSums() {
        TestJudge j = fine("acts p;let x=p;let y=p***;let z=p p p;let w=p+p+p;let v=1*0*;", 5);
        ASKED.given("count of p", j, j.count(0, 1), 1);
        ASKED.given("count of p***", j, j.count(1, 12), 1);
        ASKED.given("count of p p p", j, j.count(2, 3), 1);
        ASKED.given("count of p+p+p", j, j.count(3, 1), 1);
        ASKED.given("atoms of 1*0*", j, j.atoms(4), 1);
    }
}
