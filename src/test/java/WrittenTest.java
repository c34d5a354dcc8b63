import java.util.ArrayList;
import java.util.Arrays;
import java.util.List;
import java.util.Random;
import java.util.Set;
import java.util.TreeSet;

/**
 * Random texts whose strings are written out one by one, as far as a length: every call that asks is
 * answered from the strings alone. A program without an end is asked for what shorter strings settle.
 */
public final class WrittenTest {
    private static final Asked ASKED = new Asked("WrittenTest");
    private static final int TEXTS = 100;
    /** A judge is good for 512 calls; a new one is taken well ahead. */
    private static final int MOST_CALLS = 400;

    private final String text;
    private final TextModel model;
    private final int atoms;
    private final int acts;
    private final int assumed;
    private final int longest;
    private final Strings strings;
    /** By set of facts, by program. */
    private final List<List<TreeSet<String>>> byFacts;
    private final List<TreeSet<String>> written;
    private TestJudge judge;
    private int calls;

    private WrittenTest(String text, TextModel model, Strings strings, List<List<TreeSet<String>>> byFacts,
            int assumed) {
        this.text = text;
        this.model = model;
        this.strings = strings;
        this.byFacts = byFacts;
        this.assumed = assumed;
        atoms = 1 << model.tests.size();
        acts = model.acts.size();
        longest = longest(model);
        written = byFacts.get(assumed);
        renew();
    }

    public static void main(String[] args) {
        int from = args.length > 0 ? Integer.parseInt(args[0]) : 0;
        int texts = args.length > 1 ? Integer.parseInt(args[1]) : TEXTS;
        for (int seed = from; seed < from + texts; seed++) {
            String text = TextMaker.text(new Random(seed));
            TextModel model = new TextModel(text);
            Strings strings = new Strings(1 << model.tests.size(), longest(model));
            List<List<TreeSet<String>>> byFacts = byFacts(model, strings);
            for (int set = 0; set < byFacts.size(); set++) {
                ASKED.part(text.replace('\n', ' ') + " [facts " + set + "]");
                new WrittenTest(text, model, strings, byFacts, set).askAll();
            }
        }
        ASKED.end();
    }

    /** As far as the strings are not too many to be written out. */
    private static int longest(TextModel model) {
        int letters = model.acts.size() << model.tests.size();
        return letters <= 2 ? 8 : letters <= 4 ? 5 : letters <= 6 ? 4 : letters <= 12 ? 3 : 2;
    }

    private static List<List<TreeSet<String>>> byFacts(TextModel model, Strings strings) {
        List<List<TreeSet<String>>> byFacts = new ArrayList<>();
        for (int set = 0; set < 1 << model.facts.size(); set++) {
            List<TreeSet<String>> written = new ArrayList<>();
            for (Tree tree : model.programs) {
                written.add(strings.allowed(tree, model.facts, set));
            }
            byFacts.add(written);
        }
        return byFacts;
    }

    private void renew() {
        judge = Asked.told(text);
        calls = 0;
        for (int fact = 0; fact < model.facts.size(); fact++) {
            if ((assumed >> fact & 1) == 0) {
                judge.assume(fact, false);
            }
        }
    }

    private void given(String call, long got, long want) {
        ASKED.given(call, judge, got, want);
        count(2);
    }

    private void denied(String call, long got, int status) {
        ASKED.denied(call, judge, got, status);
        count(2);
    }

    private void count(int more) {
        calls += more;
        if (calls > MOST_CALLS) {
            renew();
        }
    }

    private void askAll() {
        boolean all = true;
        for (int p = 0; p < written.size(); p++) {
            askCounts(p);
            if (isSettled(p)) {
                askStrings(p);
                askSets(p);
                new Rests(p).ask();
            }
            for (int q = 0; q < written.size(); q++) {
                given("both(" + p + "," + q + "," + (p + q) % (longest + 1) + ")",
                        judge.both(p, q, (p + q) % (longest + 1)), ofLength(common(p, q), (p + q) % (longest + 1)));
                boolean settled = areSettled(p, q);
                all &= settled;
                if (settled) {
                    askPair(p, q);
                }
                askFacts(p, q);
                askSwaps(p, q);
                askMade(p, q);
            }
        }
        if (all) {
            askKinds();
        }
    }

    /** Whether what is asked of a program alone shows in the strings that are written out. */
    private boolean isSettled(int p) {
        count(1);
        return isWhole(p) || 2 * judge.rests(p) <= longest;
    }

    /** Strings that tell two programs apart have fewer acts than both together have rests. */
    private boolean areSettled(int p, int q) {
        count(2);
        return isWhole(p) && isWhole(q) || judge.rests(p) + judge.rests(q) <= longest;
    }

    private boolean isWhole(int p) {
        Tree tree = model.programs.get(p);
        return tree.weight() <= longest && !hasLoop(tree);
    }

    private static boolean hasLoop(Tree tree) {
        boolean loop = tree.kind == Tree.Kind.STAR && tree.weight() > 0;
        for (Tree kid : tree.kids) {
            loop |= hasLoop(kid);
        }
        return loop;
    }

    // ---- one program

    private static int first(String s) {
        return s.charAt(0) - '0';
    }

    private static int last(String s) {
        return s.charAt(s.length() - 1) - '0';
    }

    private static long ofLength(Set<String> set, int length) {
        return set.stream().filter(s -> s.length() / 2 == length).count();
    }

    private static int plain(Set<String> set) {
        return set.stream().filter(s -> s.length() == 1).mapToInt(s -> 1 << first(s)).sum();
    }

    private void askCounts(int p) {
        for (int n = 0; n <= longest; n++) {
            given("count(" + p + "," + n + ")", judge.count(p, n), ofLength(written.get(p), n));
        }
        given("atoms(" + p + ")", judge.atoms(p), plain(written.get(p)));
    }

    private void askStrings(int p) {
        Set<String> set = written.get(p);
        int[] uses = new int[3];
        int greatest = TestJudge.NONE;
        for (String s : set) {
            uses[0] |= 1 << first(s);
            uses[1] |= 1 << last(s);
            for (int i = 1; i < s.length(); i += 2) {
                uses[2] |= 1 << s.charAt(i) - 'a';
            }
            greatest = Math.max(greatest, s.length() / 2);
        }
        for (int what = 0; what < 3; what++) {
            given("uses(" + p + "," + what + ")", judge.uses(p, what), uses[what]);
        }
        // What is as long as this goes round somewhere, unless all is written out.
        if (set.isEmpty() || !isWhole(p) && greatest > longest / 2) {
            denied("greatest(" + p + ")", judge.greatest(p), 5);
        } else {
            given("greatest(" + p + ")", judge.greatest(p), greatest);
        }
        String first = firstOf(set);
        if (first == null) {
            denied("least(" + p + ")", judge.least(p), 5);
            denied("first(" + p + ",NONE)", judge.first(p, TestJudge.NONE), 5);
            return;
        }
        given("least(" + p + ")", judge.least(p), first.length() / 2);
        given("first(" + p + ",NONE)", judge.first(p, TestJudge.NONE), first.length() / 2);
        for (int k = 0; k < first.length(); k++) {
            given("first(" + p + "," + k + ")", judge.first(p, k), place(first, k));
        }
        denied("first(" + p + "," + first.length() + ")", judge.first(p, first.length()), 5);
    }

    private static int place(String s, int k) {
        return s.charAt(k) - (k % 2 == 0 ? '0' : 'a');
    }

    private static String firstOf(Set<String> set) {
        String first = null;
        for (String s : set) {
            if (first == null || s.length() < first.length() || s.length() == first.length() && s.compareTo(first) < 0) {
                first = s;
            }
        }
        return first;
    }

    // ---- ahead and behind

    /** Of strings, by the atoms that they begin and end with. */
    private static boolean isRight(int ahead, Set<String> ends, int behind) {
        for (String s : ends) {
            if ((ahead >> first(s) & 1) != 0 && (behind >> last(s) & 1) == 0) {
                return false;
            }
        }
        return true;
    }

    private void askSets(int p) {
        Set<String> ends = new TreeSet<>();
        for (String s : written.get(p)) {
            ends.add("" + first(s) + last(s));
        }
        int sets = 1 << atoms;
        int stride = atoms == 8 ? 37 : 1;
        for (int x = 0; x < sets; x += stride) {
            int weakest = 0;
            int strongest = sets - 1;
            int keeps = 0;
            for (int y = 0; y < sets; y++) {
                // Of two sets that are right what both have together, or what is in both, is right, too.
                weakest |= isRight(y, ends, x) ? y : 0;
                strongest &= isRight(x, ends, y) ? y : sets - 1;
                keeps |= (y & ~x) == 0 && isRight(y, ends, y) ? y : 0;
            }
            given("weakest(" + p + "," + x + ")", judge.weakest(p, x), weakest);
            given("strongest(" + x + "," + p + ")", judge.strongest(x, p), strongest);
            given("keeps(" + p + "," + x + ")", judge.keeps(p, x), keeps);
            int y = (x * 7 + p * 5 + 3) % sets;
            given("right(" + x + "," + p + "," + y + ")", judge.right(x, p, y), isRight(x, ends, y) ? 1 : 0);
            given("right(" + x + "," + p + "," + strongest + ")", judge.right(x, p, strongest), 1);
            given("right(" + weakest + "," + p + "," + x + ")", judge.right(weakest, p, x), 1);
        }
    }

    // ---- two programs

    private Set<String> common(int p, int q) {
        Set<String> common = new TreeSet<>(written.get(p));
        common.retainAll(written.get(q));
        return common;
    }

    private void askPair(int p, int q) {
        String pair = "(" + p + "," + q;
        Set<String> apart = new TreeSet<>(written.get(p));
        apart.addAll(written.get(q));
        apart.removeAll(common(p, q));
        String first = firstOf(apart);
        given("equal" + pair + ")", judge.equal(p, q), first == null ? 1 : 0);
        given("within" + pair + ")", judge.within(p, q), written.get(q).containsAll(written.get(p)) ? 1 : 0);
        if (first == null) {
            denied("whose" + pair + ")", judge.whose(p, q), 5);
            denied("telling" + pair + ",NONE)", judge.telling(p, q, TestJudge.NONE), 5);
            denied("telling" + pair + ",0)", judge.telling(p, q, 0), 5);
            return;
        }
        given("whose" + pair + ")", judge.whose(p, q), written.get(p).contains(first) ? 0 : 1);
        given("telling" + pair + ",NONE)", judge.telling(p, q, TestJudge.NONE), first.length() / 2);
        for (int k = 0; k < first.length(); k++) {
            given("telling" + pair + "," + k + ")", judge.telling(p, q, k), place(first, k));
        }
        denied("telling" + pair + "," + first.length() + ")", judge.telling(p, q, first.length()), 5);
    }

    private void askFacts(int p, int q) {
        if (!isWhole(p) || !isWhole(q)) {
            return;
        }
        boolean[] alike = new boolean[1 << model.facts.size()];
        int fewest = TestJudge.NONE;
        for (int set = 0; set < alike.length; set++) {
            alike[set] = byFacts.get(set).get(p).equals(byFacts.get(set).get(q));
            boolean fewer = fewest < 0 || Integer.bitCount(set) < Integer.bitCount(fewest);
            fewest = alike[set] && fewer ? set : fewest;
        }
        String pair = "(" + p + "," + q + ")";
        if (fewest < 0) {
            denied("fewest" + pair, judge.fewest(p, q), 5);
        } else {
            given("fewest" + pair, judge.fewest(p, q), fewest);
        }
        if (!alike[assumed]) {
            denied("needs" + pair, judge.needs(p, q), 5);
            return;
        }
        int needed = 0;
        for (int one = 1; one < alike.length; one *= 2) {
            needed |= (assumed & one) != 0 && !alike[assumed - one] ? one : 0;
        }
        given("needs" + pair, judge.needs(p, q), needed);
    }

    private void askSwaps(int p, int q) {
        Tree x = model.programs.get(p);
        Tree y = model.programs.get(q);
        if (x.weight() + y.weight() > 6) {
            denied("swaps(" + p + "," + q + ")", judge.swaps(p, q), 3);
        } else if (x.weight() + y.weight() <= longest && !hasLoop(x) && !hasLoop(y)) {
            boolean alike = strings.allowed(Tree.row(x, y), model.facts, assumed)
                    .equals(strings.allowed(Tree.row(y, x), model.facts, assumed));
            given("swaps(" + p + "," + q + ")", judge.swaps(p, q), alike ? 1 : 0);
        }
    }

    private void askMade(int p, int q) {
        Tree x = model.programs.get(p);
        Tree y = model.programs.get(q);
        int how = (3 * p + q) % 5;
        if (how >= 3 && atoms == 1 || written.size() >= 8) {
            return;
        }
        int test = atoms == 1 ? 0 : (p + q) % model.tests.size();
        Tree yes = TextModel.test(test);
        Tree made = switch (how) {
            case 0 -> Tree.sum(x, y);
            case 1 -> Tree.row(x, y);
            case 2 -> Tree.star(x);
            case 3 -> Tree.choice(yes, x, y);
            default -> Tree.loop(yes, x);
        };
        String call = "make(" + how + "," + p + "," + q + "," + test + ")";
        if (made.weight() > 5) {
            denied(call, judge.make(how, p, q, test), 3);
            return;
        }
        Set<String> due = strings.allowed(made, model.facts, assumed);
        // Both ahead of the counts, so that no new judge comes between.
        count(calls > MOST_CALLS - 40 ? MOST_CALLS : 0);
        given(call, judge.make(how, p, q, test), written.size());
        for (int n = 0; n <= longest; n++) {
            given(call + ", count(" + n + ")", judge.count(written.size(), n), ofLength(due, n));
        }
        judge.undo();
        count(1);
    }

    private void askKinds() {
        int kinds = 0;
        for (int p = 0; p < written.size(); p++) {
            int least = written.indexOf(written.get(p));
            kinds += least == p ? 1 : 0;
            given("same(" + p + ")", judge.same(p), least);
        }
        given("kinds()", judge.kinds(), kinds);
    }

    // ---- rests

    /** The rests of one program: sets of strings behind parts, numbered as they are met. */
    private final class Rests {
        private final int program;
        /** How long the strings of a rest are looked at. */
        private final int deep;
        private final List<Set<String>> rests = new ArrayList<>();
        private final List<String> parts = new ArrayList<>();

        Rests(int program) {
            this.program = program;
            deep = isWhole(program) ? longest : longest / 2;
            meet("");
            for (int k = 0; k < parts.size(); k++) {
                for (int letter = 0; letter < atoms * acts; letter++) {
                    meet(parts.get(k) + letter(letter));
                }
            }
        }

        private String letter(int letter) {
            return "" + letter / acts + (char) ('a' + letter % acts);
        }

        private Set<String> behind(String part) {
            Set<String> rest = new TreeSet<>();
            // Digits and small letters all stand ahead of ~.
            for (String s : written.get(program).subSet(part, part + "~")) {
                if ((s.length() - part.length()) / 2 <= deep) {
                    rest.add(s.substring(part.length()));
                }
            }
            return rest;
        }

        private void meet(String part) {
            Set<String> rest = behind(part);
            if (!rest.isEmpty() && !rests.contains(rest)) {
                rests.add(rest);
                parts.add(part);
            }
        }

        void ask() {
            StringBuilder table = new StringBuilder();
            boolean clear = true;
            int[] far = far();
            given("rests(" + program + ")", judge.rests(program), rests.size());
            for (int k = 0; k < rests.size(); k++) {
                String rest = "(" + program + "," + k;
                int plain = plain(rests.get(k));
                given("rest" + rest + ")", judge.rest(program, k), plain);
                given("far" + rest + ")", judge.far(program, k), far[k]);
                table.append(k).append(':').append(plain);
                int[] ways = new int[atoms];
                for (int letter = 0; letter < atoms * acts; letter++) {
                    int to = rests.indexOf(behind(parts.get(k) + letter(letter)));
                    String call = "next" + rest + "," + letter / acts + "," + letter % acts + ")";
                    int got = judge.next(program, k, letter / acts, letter % acts);
                    if (to < 0) {
                        denied(call, got, 5);
                    } else {
                        given(call, got, to);
                        table.append(' ').append(letter(letter)).append(to);
                        ways[letter / acts]++;
                    }
                }
                table.append(';');
                for (int atom = 0; atom < atoms; atom++) {
                    clear &= ways[atom] + (plain >> atom & 1) <= 1;
                }
            }
            given("clear(" + program + ")", judge.clear(program), clear ? 1 : 0);
            denied("rest(" + program + "," + rests.size() + ")", judge.rest(program, rests.size()), 5);
            askPrinted(table.toString());
            askWalk();
        }

        /** How many acts parts have that are looked at: behind them all of a rest can be seen. */
        private int shown() {
            return isWhole(program) ? longest : longest - deep;
        }

        /** By rest, the shortest of all parts behind which it is left. */
        private int[] far() {
            int[] far = new int[rests.size()];
            Arrays.fill(far, longest + 1);
            Set<String> done = new TreeSet<>();
            for (String s : written.get(program)) {
                for (int i = 0; i < s.length() && i / 2 <= shown(); i += 2) {
                    String part = s.substring(0, i);
                    if (done.add(part)) {
                        int rest = rests.indexOf(behind(part));
                        far[rest] = Math.min(far[rest], i / 2);
                    }
                }
            }
            return far;
        }

        private void askPrinted(String table) {
            if (table.length() > 100 || rests.size() > 60) {
                return;
            }
            count(calls > MOST_CALLS - 110 ? MOST_CALLS : 0);
            given("print(" + program + ")", judge.print(program), table.length());
            for (int i = 0; i < table.length(); i++) {
                ASKED.due("out(" + i + ") of " + table, judge.out(i), table.charAt(i));
            }
            count(table.length());
        }

        /** Along the strings: as far as the latest one goes, act by act. */
        private void askWalk() {
            String along = null;
            for (String s : written.get(program)) {
                along = s;
            }
            if (along == null) {
                denied("walk(" + program + ")", judge.walk(program), 5);
                return;
            }
            count(calls > MOST_CALLS - 60 ? MOST_CALLS : 0);
            given("walk(" + program + ")", judge.walk(program), rests.size());
            for (int i = 0; i + 2 < along.length() && i / 2 < shown(); i += 2) {
                int rest = rests.indexOf(behind(along.substring(0, i + 2)));
                given("step along " + along, judge.step(place(along, i), place(along, i + 1)), rest);
                given("walked(1)", judge.walked(1), i / 2 + 1);
                given("walked(2)", judge.walked(2), rest);
                given("walked(3)", judge.walked(3), plain(rests.get(rest)));
            }
        }
    }
}
