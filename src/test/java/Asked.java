/** For the tests: answers held against those that are due. */
final class Asked {
    private final String test;
    private String part = "";
    private int wrong = 0;
    private int asked = 0;

    Asked(String test) {
        this.test = test;
        Watch.start(test);
    }

    void part(String name) {
        part = name;
    }

    void due(String call, long got, long want) {
        asked++;
        if (got != want) {
            wrong++;
            System.out.println(test + ", " + part + ": " + call + " answered " + got + ", due is " + want);
        }
    }

    /** A call that gives NONE with a status. */
    void denied(String call, TestJudge judge, long got, int status) {
        due(call, got, TestJudge.NONE);
        due(call + ", status", judge.status(), status);
    }

    /** A call that gives an answer with status 0. */
    void given(String call, TestJudge judge, long got, long want) {
        due(call, got, want);
        due(call + ", status", judge.status(), 0);
    }

    void end() {
        System.out.println(test + ": " + asked + " answers, " + (wrong == 0 ? "all as due" : wrong + " not as due"));
        if (wrong != 0) {
            System.exit(1);
        }
    }

    /** Puts a text on the tape, with blanks behind it up to twenty bytes; what the last feed() said. */
    static int feed(TestJudge judge, String text) {
        int size = TestJudge.NONE;
        for (int i = 0; i < text.length(); i += 20) {
            int[] w = new int[5];
            for (int k = 0; k < 20; k++) {
                w[k / 4] = w[k / 4] << 8 | (i + k < text.length() ? text.charAt(i + k) : ' ');
            }
            size = judge.feed(w[0], w[1], w[2], w[3], w[4]);
        }
        return size;
    }

    static int load(TestJudge judge, String text) {
        feed(judge, text);
        return judge.load(text.length());
    }

    static TestJudge told(String text) {
        TestJudge judge = new TestJudge();
        if (load(judge, text) < 0) {
            throw new IllegalArgumentException(text + ": " + judge.fault(0) + " at " + judge.fault(1));
        }
        return judge;
    }

    static String printed(TestJudge judge, int program) {
        int size = judge.print(program);
        StringBuilder out = new StringBuilder();
        for (int i = 0; i < size; i++) {
            out.append((char) judge.out(i));
        }
        return out.toString();
    }
}
