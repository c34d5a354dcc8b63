import java.util.ArrayDeque;
import java.util.ArrayList;
import java.util.Deque;
import java.util.HashMap;
import java.util.List;
import java.util.Map;

/** For the tests: the document said a second time, in the plainest way and without thrift. */
final class Model {
    static final int NONE = -1;

    private record Held(Tree tree, int layers) {
    }

    private record Moment(List<Held> programs, int assumed) {
    }

    private StringBuilder tape = new StringBuilder();
    private int status = 0;
    private int fault = NONE;
    private int place = NONE;
    private int tests = 0;
    private int acts = 0;
    private List<Held> programs = new ArrayList<>();
    private List<Tree> facts = new ArrayList<>();
    private int assumed = 0;
    private Deque<Moment> past = new ArrayDeque<>();
    private int walkProgram = NONE;
    private List<int[]> part = new ArrayList<>();
    private String out = "";
    private final Map<Tree, Map<Integer, Chart>> charts = new HashMap<>();

    private int give(int answer) {
        status = 0;
        return answer;
    }

    private int deny(int why) {
        status = why;
        return NONE;
    }

    private boolean no(int program) {
        return program < 0 || program >= programs.size();
    }

    private int all() {
        return (1 << (1 << tests)) - 1;
    }

    private Tree factSum(int set) {
        Tree sum = Tree.atoms(0);
        for (int f = 0; f < facts.size(); f++) {
            if ((set >> f & 1) != 0) {
                sum = Tree.sum(sum, facts.get(f));
            }
        }
        return sum;
    }

    private Chart chart(Tree tree, int set) {
        return charts.computeIfAbsent(tree, t -> new HashMap<>())
                .computeIfAbsent(set, s -> new Chart(tree, factSum(s), tests, acts));
    }

    private Chart chart(int program) {
        return chart(programs.get(program).tree, assumed);
    }

    int status() {
        return status;
    }

    int feed(int a, int b, int c, int d, int e) {
        if (tape.length() > 480) {
            return NONE;
        }
        for (int x : new int[] {a, b, c, d, e}) {
            tape.append((char) (x >>> 24)).append((char) (x >>> 16 & 255));
            tape.append((char) (x >>> 8 & 255)).append((char) (x & 255));
        }
        return tape.length();
    }

    int load(int n) {
        if (n < 0 || n > tape.length()) {
            return deny(1);
        }
        TextModel text = new TextModel(tape.substring(0, n));
        tape = new StringBuilder();
        fault = text.fault;
        place = text.place;
        if (fault != 0) {
            return deny(9);
        }
        tests = text.tests.size();
        acts = text.acts.size();
        programs = new ArrayList<>();
        for (Tree tree : text.programs) {
            programs.add(new Held(tree, 0));
        }
        facts = text.facts;
        assumed = (1 << facts.size()) - 1;
        past = new ArrayDeque<>();
        walkProgram = NONE;
        charts.clear();
        return give(programs.size());
    }

    int fault(int what) {
        return what == 0 ? fault : what == 1 ? place : NONE;
    }

    int many(int what) {
        if (what < 0 || what > 7) {
            return deny(1);
        }
        int[] answers = {tests, acts, programs.size(), facts.size(), 1 << tests, assumed, past.size(),
            all() & ~chart(Tree.atoms(255), assumed).endsAt(0)};
        return give(answers[what]);
    }

    int program(int program, int what) {
        if (what < 0 || what > 1) {
            return deny(1);
        }
        if (no(program)) {
            return deny(2);
        }
        int weight = programs.get(program).tree.weight();
        return give(what == 0 ? weight : weight == 0 ? 1 : 0);
    }

    int fact(int fact, int what) {
        if (what < 0 || what > 1) {
            return deny(1);
        }
        if (fact < 0 || fact >= facts.size()) {
            return deny(2);
        }
        return give(what == 0 ? facts.get(fact).weight() : assumed >> fact & 1);
    }

    int atoms(int program) {
        return no(program) ? deny(2) : give(chart(program).endsAt(0));
    }

    int uses(int program, int what) {
        if (what < 0 || what > 2) {
            return deny(1);
        }
        if (no(program)) {
            return deny(2);
        }
        int begin = 0;
        int end = 0;
        int[] relation = chart(program).relation();
        for (int atom = 0; atom < relation.length; atom++) {
            begin |= relation[atom] == 0 ? 0 : 1 << atom;
            end |= relation[atom];
        }
        return give(what == 0 ? begin : what == 1 ? end : chart(program).actsUsed());
    }

    long count(int program, int n) {
        if (n < 0 || n > 12) {
            return deny(1);
        }
        if (no(program)) {
            return deny(2);
        }
        status = 0;
        return chart(program).count(chart(program).start(), n, new HashMap<>());
    }

    int least(int program) {
        return first(program, NONE);
    }

    int greatest(int program) {
        if (no(program)) {
            return deny(2);
        }
        int n = chart(program).greatest();
        return n < 0 ? deny(5) : give(n);
    }

    int first(int program, int k) {
        if (k < NONE) {
            return deny(1);
        }
        if (no(program)) {
            return deny(2);
        }
        return spelled(Chart.telling(chart(program), chart(Tree.atoms(0), assumed)), k);
    }

    private int spelled(int[] string, int k) {
        if (string == null || k > string.length - 2) {
            return deny(5);
        }
        return give(k == NONE ? string.length / 2 - 1 : string[k]);
    }

    int equal(int program, int other) {
        return no(program) || no(other) ? deny(2) : give(alike(program, other, assumed) ? 1 : 0);
    }

    private boolean alike(int program, int other, int set) {
        return Chart.alike(chart(programs.get(program).tree, set), chart(programs.get(other).tree, set));
    }

    int within(int program, int other) {
        if (no(program) || no(other)) {
            return deny(2);
        }
        return give(Chart.inside(chart(program), chart(other)) ? 1 : 0);
    }

    int telling(int program, int other, int k) {
        if (k < NONE) {
            return deny(1);
        }
        if (no(program) || no(other)) {
            return deny(2);
        }
        return spelled(Chart.telling(chart(program), chart(other)), k);
    }

    int whose(int program, int other) {
        if (no(program) || no(other)) {
            return deny(2);
        }
        int[] string = Chart.telling(chart(program), chart(other));
        return string == null ? deny(5) : give(string[string.length - 1]);
    }

    int same(int program) {
        if (no(program)) {
            return deny(2);
        }
        int least = 0;
        while (!alike(least, program, assumed)) {
            least++;
        }
        return give(least);
    }

    int kinds() {
        int kinds = 0;
        for (int i = 0; i < programs.size(); i++) {
            kinds += same(i) == i ? 1 : 0;
        }
        return give(kinds);
    }

    int swaps(int program, int other) {
        if (no(program) || no(other)) {
            return deny(2);
        }
        Tree x = programs.get(program).tree;
        Tree y = programs.get(other).tree;
        if (x.weight() + y.weight() > 6) {
            return deny(3);
        }
        Chart a = new Chart(Tree.row(x, y), factSum(assumed), tests, acts);
        Chart b = new Chart(Tree.row(y, x), factSum(assumed), tests, acts);
        return give(Chart.alike(a, b) ? 1 : 0);
    }

    long both(int program, int other, int n) {
        if (n < 0 || n > 12) {
            return deny(1);
        }
        if (no(program) || no(other)) {
            return deny(2);
        }
        status = 0;
        Chart x = chart(program);
        Chart y = chart(other);
        return Chart.shared(x, x.start(), y, y.start(), n, new HashMap<>());
    }

    int rests(int program) {
        return no(program) ? deny(2) : give(chart(program).rests().size());
    }

    private boolean noRest(int program, int k) {
        return k < 0 || k >= chart(program).rests().size();
    }

    int rest(int program, int k) {
        if (no(program)) {
            return deny(2);
        }
        return noRest(program, k) ? deny(5) : give(chart(program).endsAt(chart(program).rests().get(k)));
    }

    int next(int program, int k, int atom, int act) {
        if (no(program) || noLetter(atom, act)) {
            return deny(2);
        }
        if (noRest(program, k)) {
            return deny(5);
        }
        Chart c = chart(program);
        int to = Chart.numberOf(c.go(c.rests().get(k), atom, act), c.rests(), c.unlike());
        return to < 0 ? deny(5) : give(to);
    }

    private boolean noLetter(int atom, int act) {
        return atom < 0 || atom >= 1 << tests || act < 0 || act >= acts;
    }

    int clear(int program) {
        if (no(program)) {
            return deny(2);
        }
        Chart c = chart(program);
        boolean clear = true;
        for (int state : c.rests()) {
            for (int atom = 0; atom < c.atoms; atom++) {
                int ways = c.endsAt(state) >> atom & 1;
                for (int act = 0; act < acts; act++) {
                    ways += c.go(state, atom, act) < 0 ? 0 : 1;
                }
                clear &= ways <= 1;
            }
        }
        return give(clear ? 1 : 0);
    }

    int far(int program, int k) {
        if (no(program)) {
            return deny(2);
        }
        if (noRest(program, k)) {
            return deny(5);
        }
        Chart c = chart(program);
        boolean[][] apart = c.unlike();
        int wanted = c.rests().get(k);
        List<Integer> level = List.of(0);
        for (int n = 0;; n++) {
            List<Integer> behind = new ArrayList<>();
            for (int state : level) {
                if (!apart[state][wanted]) {
                    return give(n);
                }
                for (int i = 0; i < c.atoms * acts; i++) {
                    int to = c.go(state, i / acts, i % acts);
                    if (to >= 0 && !behind.contains(to)) {
                        behind.add(to);
                    }
                }
            }
            level = behind;
        }
    }

    private boolean isRight(int ahead, int program, int behind) {
        int[] relation = chart(program).relation();
        boolean right = true;
        for (int atom = 0; atom < relation.length; atom++) {
            right &= (ahead >> atom & 1) == 0 || (relation[atom] & ~behind) == 0;
        }
        return right;
    }

    private boolean noSet(int set) {
        return set < 0 || set > all();
    }

    int right(int ahead, int program, int behind) {
        if (noSet(ahead) || noSet(behind)) {
            return deny(1);
        }
        return no(program) ? deny(2) : give(isRight(ahead, program, behind) ? 1 : 0);
    }

    int weakest(int program, int behind) {
        if (noSet(behind)) {
            return deny(1);
        }
        if (no(program)) {
            return deny(2);
        }
        int best = 0;
        for (int set = 0; set <= all(); set++) {
            best = Integer.bitCount(set) > Integer.bitCount(best) && isRight(set, program, behind) ? set : best;
        }
        return give(best);
    }

    int strongest(int ahead, int program) {
        if (noSet(ahead)) {
            return deny(1);
        }
        if (no(program)) {
            return deny(2);
        }
        int best = all();
        for (int set = 0; set <= all(); set++) {
            best = Integer.bitCount(set) < Integer.bitCount(best) && isRight(ahead, program, set) ? set : best;
        }
        return give(best);
    }

    int keeps(int program, int atoms) {
        if (noSet(atoms)) {
            return deny(1);
        }
        if (no(program)) {
            return deny(2);
        }
        int best = 0;
        for (int set = 0; set <= all(); set++) {
            boolean part = (set & ~atoms) == 0;
            best = part && Integer.bitCount(set) > Integer.bitCount(best) && isRight(set, program, set) ? set : best;
        }
        return give(best);
    }

    int needs(int program, int other) {
        if (no(program) || no(other)) {
            return deny(2);
        }
        if (!alike(program, other, assumed)) {
            return deny(5);
        }
        int needed = 0;
        for (int f = 0; f < facts.size(); f++) {
            if ((assumed >> f & 1) != 0 && !alike(program, other, assumed - (1 << f))) {
                needed += 1 << f;
            }
        }
        return give(needed);
    }

    int fewest(int program, int other) {
        if (no(program) || no(other)) {
            return deny(2);
        }
        int best = NONE;
        for (int set = 0; set < 1 << facts.size(); set++) {
            if (alike(program, other, set) && (best < 0 || Integer.bitCount(set) < Integer.bitCount(best))) {
                best = set;
            }
        }
        return best < 0 ? deny(5) : give(best);
    }

    int walk(int program) {
        if (no(program)) {
            return deny(2);
        }
        if (chart(program).start() < 0) {
            return deny(5);
        }
        walkProgram = program;
        part = new ArrayList<>();
        return give(chart(program).rests().size());
    }

    private int behind(List<int[]> letters) {
        int state = chart(walkProgram).start();
        for (int[] letter : letters) {
            state = chart(walkProgram).go(state, letter[0], letter[1]);
        }
        return state;
    }

    private int numberBehind() {
        Chart c = chart(walkProgram);
        return Chart.numberOf(behind(part), c.rests(), c.unlike());
    }

    int step(int atom, int act) {
        if (noLetter(atom, act)) {
            return deny(2);
        }
        if (walkProgram == NONE) {
            return deny(5);
        }
        List<int[]> longer = new ArrayList<>(part);
        longer.add(new int[] {atom, act});
        if (behind(longer) < 0) {
            return deny(5);
        }
        part = longer;
        return give(numberBehind());
    }

    int walked(int what) {
        if (what < 0 || what > 3) {
            return deny(1);
        }
        if (walkProgram == NONE) {
            return deny(5);
        }
        int[] answers = {walkProgram, part.size(), numberBehind(), chart(walkProgram).endsAt(behind(part))};
        return give(answers[what]);
    }

    private void remember() {
        past.addLast(new Moment(new ArrayList<>(programs), assumed));
        if (past.size() > 8) {
            past.removeFirst();
        }
        walkProgram = NONE;
    }

    int make(int how, int program, int other, int test) {
        if (how < 0 || how > 4) {
            return deny(1);
        }
        if (no(program) || no(other) || (how == 3 || how == 4) && (test < 0 || test >= tests)) {
            return deny(2);
        }
        Held x = programs.get(program);
        Held y = programs.get(other);
        Tree t = TextModel.test(how < 3 ? 0 : test);
        Tree tree = switch (how) {
            case 0 -> Tree.sum(x.tree, y.tree);
            case 1 -> Tree.row(x.tree, y.tree);
            case 2 -> Tree.star(x.tree);
            case 3 -> Tree.choice(t, x.tree, y.tree);
            default -> Tree.loop(t, x.tree);
        };
        int layers = 1 + (how == 2 || how == 4 ? x.layers : Math.max(x.layers, y.layers));
        if (programs.size() == 8 || tree.weight() > 5 || layers >= 7) {
            return deny(3);
        }
        remember();
        programs.add(new Held(tree, layers));
        return give(programs.size() - 1);
    }

    int drop(int program) {
        if (no(program)) {
            return deny(2);
        }
        remember();
        programs.remove(program);
        return give(programs.size());
    }

    int assume(int fact, boolean yes) {
        if (fact < 0 || fact >= facts.size()) {
            return deny(2);
        }
        if ((assumed >> fact & 1) == (yes ? 1 : 0)) {
            return deny(4);
        }
        remember();
        assumed += yes ? 1 << fact : -(1 << fact);
        return give(Integer.bitCount(assumed));
    }

    int undo() {
        if (past.isEmpty()) {
            return deny(5);
        }
        Moment moment = past.removeLast();
        programs = moment.programs;
        assumed = moment.assumed;
        walkProgram = NONE;
        return give(past.size());
    }

    int print(int program) {
        if (no(program)) {
            return deny(2);
        }
        Chart c = chart(program);
        List<Integer> rests = c.rests();
        if (rests.size() > 60) {
            return deny(3);
        }
        boolean[][] apart = c.unlike();
        out = "";
        for (int k = 0; k < rests.size(); k++) {
            out += k + ":" + c.endsAt(rests.get(k));
            for (int i = 0; i < c.atoms * acts; i++) {
                int to = Chart.numberOf(c.go(rests.get(k), i / acts, i % acts), rests, apart);
                out += to < 0 ? "" : " " + i / acts + (char) ('a' + i % acts) + to;
            }
            out += ";";
        }
        return give(out.length());
    }

    /** NONE where the document wants an exception. */
    int out(int i) {
        return i < 0 || i >= out.length() ? NONE : out.charAt(i);
    }
}
