import java.util.Random;
import java.util.Set;

/** Short strings of programs with and without an end, held against those that Strings writes out. */
public final class SetsTest {
    private static final Asked ASKED = new Asked("SetsTest");
    private static final int LONGEST = 3;

    public static void main(String[] args) {
        Random random = new Random(7);
        for (int i = 0; i < 1500; i++) {
            check(TextMaker.text(random));
        }
        ASKED.end();
    }

    private static void check(String text) {
        TextModel model = new TextModel(text);
        // Three tests and two acts have too many strings to be written out.
        if (model.fault != 0 || (1 << model.tests.size()) * model.acts.size() > 6) {
            return;
        }
        ASKED.part(text);
        TestJudge judge = Asked.told(text);
        int atoms = 1 << model.tests.size();
        Strings strings = new Strings(atoms, LONGEST);
        for (int p = 0; p < model.programs.size(); p++) {
            compare(judge, p, strings.allowed(model.programs.get(p), model.facts, 3));
        }
    }

    private static void compare(TestJudge judge, int program, Set<String> good) {
        long[] counts = new long[LONGEST + 1];
        String first = null;
        for (String s : good) {
            counts[s.length() / 2]++;
            boolean ahead = first == null || s.length() < first.length()
                    || s.length() == first.length() && s.compareTo(first) < 0;
            first = ahead ? s : first;
        }
        for (int n = 0; n <= LONGEST; n++) {
            ASKED.given("count(" + program + ", " + n + ")", judge, judge.count(program, n), counts[n]);
        }
        if (first != null) {
            ASKED.given("first(" + program + ", NONE)", judge, judge.first(program, TestJudge.NONE), first.length() / 2);
            for (int k = 0; k < first.length(); k++) {
                int want = first.charAt(k) - (k % 2 == 0 ? '0' : 'a');
                ASKED.given("first(" + program + ", " + k + ")", judge, judge.first(program, k), want);
            }
        }
    }
}
