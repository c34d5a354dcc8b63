import java.util.ArrayList;
import java.util.Arrays;
import java.util.HashMap;
import java.util.List;
import java.util.Map;

/**
 * For the tests: the strings of a program less those that facts forbid, as a chart of states made
 * from nets with silent steps, the forbidden ones as (acts)* fact (acts)*. State -1 has no strings.
 */
final class Chart {
    final int atoms;
    final int acts;
    final List<Integer> ends = new ArrayList<>();
    final List<int[]> behind = new ArrayList<>();
    boolean[] live;
    private List<Integer> rests;
    private boolean[][] unlike;

    Chart(Tree program, Tree facts, int tests, int acts) {
        this.atoms = 1 << tests;
        this.acts = acts;
        int all = (1 << atoms) - 1;
        Tree any = Tree.atoms(0);
        for (int a = 0; a < acts; a++) {
            any = Tree.sum(any, Tree.act(a));
        }
        Tree.Net good = new Tree.Net(program, all);
        Tree.Net bad = new Tree.Net(Tree.row(Tree.star(any), Tree.row(facts, Tree.star(any))), all);
        explore(good, bad);
        findLive();
    }

    private void explore(Tree.Net good, Tree.Net bad) {
        Map<String, Integer> known = new HashMap<>();
        List<boolean[][]> sets = new ArrayList<>();
        boolean[] a = new boolean[good.nodes];
        boolean[] b = new boolean[bad.nodes];
        a[0] = true;
        b[0] = true;
        known.put(Arrays.toString(a) + Arrays.toString(b), 0);
        sets.add(new boolean[][] {a, b});
        for (int i = 0; i < sets.size(); i++) {
            int end = 0;
            int[] row = new int[atoms * acts];
            for (int atom = 0; atom < atoms; atom++) {
                boolean[] x = good.close(sets.get(i)[0], atom);
                boolean[] y = bad.close(sets.get(i)[1], atom);
                if (x[1] && !y[1]) {
                    end |= 1 << atom;
                }
                for (int act = 0; act < acts; act++) {
                    boolean[] p = good.move(x, act);
                    boolean[] q = bad.move(y, act);
                    String key = Arrays.toString(p) + Arrays.toString(q);
                    Integer at = known.get(key);
                    if (at == null) {
                        at = sets.size();
                        known.put(key, at);
                        sets.add(new boolean[][] {p, q});
                    }
                    row[atom * acts + act] = at;
                }
            }
            ends.add(end);
            behind.add(row);
        }
    }

    private void findLive() {
        live = new boolean[ends.size()];
        boolean more = true;
        while (more) {
            more = false;
            for (int i = 0; i < live.length; i++) {
                boolean now = ends.get(i) != 0;
                for (int to : behind.get(i)) {
                    now |= live[to];
                }
                more |= now != live[i];
                live[i] = now;
            }
        }
    }

    int start() {
        return live[0] ? 0 : -1;
    }

    int endsAt(int state) {
        return state < 0 ? 0 : ends.get(state);
    }

    int go(int state, int atom, int act) {
        if (state < 0) {
            return -1;
        }
        int to = behind.get(state)[atom * acts + act];
        return live[to] ? to : -1;
    }

    long count(int state, int n, Map<Long, Long> memo) {
        if (state < 0) {
            return 0;
        }
        if (n == 0) {
            return Integer.bitCount(endsAt(state));
        }
        long key = state * 100L + n;
        Long known = memo.get(key);
        if (known != null) {
            return known;
        }
        long sum = 0;
        for (int atom = 0; atom < atoms; atom++) {
            for (int act = 0; act < acts; act++) {
                sum += count(go(state, atom, act), n - 1, memo);
            }
        }
        memo.put(key, sum);
        return sum;
    }

    static long shared(Chart x, int i, Chart y, int j, int n, Map<Long, Long> memo) {
        if (i < 0 || j < 0) {
            return 0;
        }
        if (n == 0) {
            return Integer.bitCount(x.endsAt(i) & y.endsAt(j));
        }
        long key = (i * 100000L + j) * 100L + n;
        Long known = memo.get(key);
        if (known != null) {
            return known;
        }
        long sum = 0;
        for (int atom = 0; atom < x.atoms; atom++) {
            for (int act = 0; act < x.acts; act++) {
                sum += shared(x, x.go(i, atom, act), y, y.go(j, atom, act), n - 1, memo);
            }
        }
        memo.put(key, sum);
        return sum;
    }

    /** The least length of a string that the one has and the other has not, by pairs; absent: none. */
    static Map<Long, Integer> apart(Chart x, int i, Chart y, int j, boolean firstAlone) {
        List<int[]> pairs = new ArrayList<>();
        Map<Long, Integer> least = new HashMap<>();
        Map<Long, Integer> known = new HashMap<>();
        pairs.add(new int[] {i, j});
        known.put(key(i, j), 0);
        for (int k = 0; k < pairs.size(); k++) {
            int[] p = pairs.get(k);
            int differ = firstAlone ? x.endsAt(p[0]) & ~y.endsAt(p[1]) : x.endsAt(p[0]) ^ y.endsAt(p[1]);
            if (differ != 0) {
                least.put(key(p[0], p[1]), 0);
            }
            for (int atom = 0; atom < x.atoms; atom++) {
                for (int act = 0; act < x.acts; act++) {
                    int a = x.go(p[0], atom, act);
                    int b = y.go(p[1], atom, act);
                    if (known.putIfAbsent(key(a, b), pairs.size()) == null) {
                        pairs.add(new int[] {a, b});
                    }
                }
            }
        }
        boolean more = true;
        while (more) {
            more = false;
            for (int[] p : pairs) {
                for (int atom = 0; atom < x.atoms; atom++) {
                    for (int act = 0; act < x.acts; act++) {
                        Integer to = least.get(key(x.go(p[0], atom, act), y.go(p[1], atom, act)));
                        Integer here = least.get(key(p[0], p[1]));
                        if (to != null && (here == null || here > to + 1)) {
                            least.put(key(p[0], p[1]), to + 1);
                            more = true;
                        }
                    }
                }
            }
        }
        return least;
    }

    static long key(int i, int j) {
        return (i + 1) * 100000L + j + 1;
    }

    static boolean alike(Chart x, Chart y) {
        return !apart(x, x.start(), y, y.start(), false).containsKey(key(x.start(), y.start()));
    }

    static boolean inside(Chart x, Chart y) {
        return !apart(x, x.start(), y, y.start(), true).containsKey(key(x.start(), y.start()));
    }

    /** The first string that one has and the other has not, and at last whose it is; null if alike. */
    static int[] telling(Chart x, Chart y) {
        Map<Long, Integer> least = apart(x, x.start(), y, y.start(), false);
        int i = x.start();
        int j = y.start();
        Integer length = least.get(key(i, j));
        if (length == null) {
            return null;
        }
        int[] string = new int[2 * length + 2];
        for (int n = 0; n < length; n++) {
            search:
            for (int atom = 0; atom < x.atoms; atom++) {
                for (int act = 0; act < x.acts; act++) {
                    Integer to = least.get(key(x.go(i, atom, act), y.go(j, atom, act)));
                    if (to != null && to == length - n - 1) {
                        string[2 * n] = atom;
                        string[2 * n + 1] = act;
                        int a = x.go(i, atom, act);
                        j = y.go(j, atom, act);
                        i = a;
                        break search;
                    }
                }
            }
        }
        int differ = x.endsAt(i) ^ y.endsAt(j);
        int atom = Integer.numberOfTrailingZeros(differ);
        string[2 * length] = atom;
        string[2 * length + 1] = (x.endsAt(i) >> atom & 1) != 0 ? 0 : 1;
        return string;
    }

    /** -1 without strings, -2 without a greatest. */
    int greatest() {
        return start() < 0 ? -1 : longest(0, new int[ends.size()], new boolean[ends.size()]);
    }

    private int longest(int state, int[] memo, boolean[] open) {
        if (open[state]) {
            return -2;
        }
        if (memo[state] != 0) {
            return memo[state] - 1;
        }
        open[state] = true;
        int most = 0;
        for (int atom = 0; atom < atoms; atom++) {
            for (int act = 0; act < acts; act++) {
                int to = go(state, atom, act);
                if (to >= 0) {
                    int n = longest(to, memo, open);
                    if (n == -2) {
                        return -2;
                    }
                    most = Math.max(most, n + 1);
                }
            }
        }
        open[state] = false;
        memo[state] = most + 1;
        return most;
    }

    /** By first atom: the atoms with which its strings end. */
    int[] relation() {
        int[] relation = new int[atoms];
        for (int atom = 0; atom < atoms; atom++) {
            relation[atom] = endsAt(start()) & 1 << atom;
            boolean[] seen = new boolean[ends.size()];
            for (int act = 0; act < acts; act++) {
                gather(go(start(), atom, act), seen);
            }
            for (int i = 0; i < seen.length; i++) {
                relation[atom] |= seen[i] ? ends.get(i) : 0;
            }
        }
        return relation;
    }

    private void gather(int state, boolean[] seen) {
        if (state < 0 || seen[state]) {
            return;
        }
        seen[state] = true;
        for (int atom = 0; atom < atoms; atom++) {
            for (int act = 0; act < acts; act++) {
                gather(go(state, atom, act), seen);
            }
        }
    }

    int actsUsed() {
        boolean[] seen = new boolean[ends.size()];
        gather(start(), seen);
        int used = 0;
        for (int i = 0; i < seen.length; i++) {
            for (int k = 0; seen[i] && k < atoms * acts; k++) {
                used |= go(i, k / acts, k % acts) < 0 ? 0 : 1 << k % acts;
            }
        }
        return used;
    }

    /** One state of each rest, in the order of their numbers. */
    List<Integer> rests() {
        if (rests != null) {
            return rests;
        }
        rests = new ArrayList<>();
        if (start() < 0) {
            return rests;
        }
        boolean[][] apart = unlike();
        rests.add(0);
        for (int k = 0; k < rests.size(); k++) {
            for (int atom = 0; atom < atoms; atom++) {
                for (int act = 0; act < acts; act++) {
                    int to = go(rests.get(k), atom, act);
                    if (to >= 0 && numberOf(to, rests, apart) < 0) {
                        rests.add(to);
                    }
                }
            }
        }
        return rests;
    }

    static int numberOf(int state, List<Integer> rests, boolean[][] apart) {
        for (int k = 0; k < rests.size(); k++) {
            if (state >= 0 && !apart[state][rests.get(k)]) {
                return k;
            }
        }
        return -1;
    }

    /** Which states have not the same strings. */
    boolean[][] unlike() {
        if (unlike != null) {
            return unlike;
        }
        int n = ends.size();
        boolean[][] apart = new boolean[n][n];
        unlike = apart;
        boolean more = true;
        while (more) {
            more = false;
            for (int i = 0; i < n; i++) {
                for (int j = 0; j < n; j++) {
                    if (!apart[i][j] && (!ends.get(i).equals(ends.get(j)) || apartBehind(i, j, apart))) {
                        apart[i][j] = true;
                        more = true;
                    }
                }
            }
        }
        return apart;
    }

    private boolean apartBehind(int i, int j, boolean[][] apart) {
        for (int k = 0; k < atoms * acts; k++) {
            if (apart[behind.get(i)[k]][behind.get(j)[k]]) {
                return true;
            }
        }
        return false;
    }
}
