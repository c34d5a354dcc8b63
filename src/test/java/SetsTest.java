import java.util.Random;
import java.util.Set;
import java.util.TreeSet;

/**
 * Short strings straight from the document's words: sets of strings joined one by one, less those in
 * which some part is a string of a fact. A string is written as a digit for each atom, a letter for each act.
 */
public final class SetsTest {
    private static final Asked ASKED = new Asked("SetsTest");
    private static final int LONGEST = 3;

    public static void main(String[] args) {
        Random random = new Random(7);
        for (int i = 0; i < 1500; i++) {
            check(TextMaker.text(random));
        }
        ASKED.end();
    }

    private static void check(String text) {
        TextModel model = new TextModel(text);
        // Three tests and two acts have too many strings to be written out.
        if (model.fault != 0 || (1 << model.tests.size()) * model.acts.size() > 6) {
            return;
        }
        ASKED.part(text);
        TestJudge judge = Asked.told(text);
        int atoms = 1 << model.tests.size();
        Set<String> bad = new TreeSet<>();
        for (Tree fact : model.facts) {
            bad.addAll(strings(fact, atoms));
        }
        for (int p = 0; p < model.programs.size(); p++) {
            Set<String> good = strings(model.programs.get(p), atoms);
            good.removeIf(s -> forbidden(s, bad));
            compare(judge, p, good);
        }
    }

    private static void compare(TestJudge judge, int program, Set<String> good) {
        long[] counts = new long[LONGEST + 1];
        String first = null;
        for (String s : good) {
            counts[s.length() / 2]++;
            boolean ahead = first == null || s.length() < first.length()
                    || s.length() == first.length() && s.compareTo(first) < 0;
            first = ahead ? s : first;
        }
        for (int n = 0; n <= LONGEST; n++) {
            ASKED.given("count(" + program + ", " + n + ")", judge, judge.count(program, n), counts[n]);
        }
        if (first != null) {
            ASKED.given("first(" + program + ", NONE)", judge, judge.first(program, TestJudge.NONE), first.length() / 2);
            for (int k = 0; k < first.length(); k++) {
                int want = first.charAt(k) - (k % 2 == 0 ? '0' : 'a');
                ASKED.given("first(" + program + ", " + k + ")", judge, judge.first(program, k), want);
            }
        }
    }

    private static boolean forbidden(String s, Set<String> bad) {
        for (int i = 0; i < s.length(); i += 2) {
            for (int k = i + 1; k <= s.length(); k += 2) {
                if (bad.contains(s.substring(i, k))) {
                    return true;
                }
            }
        }
        return false;
    }

    private static Set<String> strings(Tree tree, int atoms) {
        Set<String> set = new TreeSet<>();
        switch (tree.kind) {
            case ATOMS -> {
                for (int atom = 0; atom < atoms; atom++) {
                    if ((tree.value >> atom & 1) != 0) {
                        set.add("" + atom);
                    }
                }
            }
            case ACT -> {
                for (int i = 0; i < atoms * atoms; i++) {
                    set.add("" + i / atoms + (char) ('a' + tree.value) + i % atoms);
                }
            }
            case SUM -> {
                set.addAll(strings(tree.kids.get(0), atoms));
                set.addAll(strings(tree.kids.get(1), atoms));
            }
            case ROW -> set.addAll(join(strings(tree.kids.get(0), atoms), strings(tree.kids.get(1), atoms)));
            case NOT -> {
                set.addAll(strings(Tree.atoms(255), atoms));
                set.removeAll(strings(tree.kids.get(0), atoms));
            }
            default -> {
                Set<String> one = strings(tree.kids.get(0), atoms);
                set.addAll(strings(Tree.atoms(255), atoms));
                for (int n = 0; n < LONGEST; n++) {
                    set.addAll(join(set, one));
                }
            }
        }
        return set;
    }

    private static Set<String> join(Set<String> x, Set<String> y) {
        Set<String> set = new TreeSet<>();
        for (String s : x) {
            for (String t : y) {
                boolean fits = s.charAt(s.length() - 1) == t.charAt(0);
                if (fits && (s.length() + t.length() - 1) / 2 <= LONGEST) {
                    set.add(s + t.substring(1));
                }
            }
        }
        return set;
    }
}
