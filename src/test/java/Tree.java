import java.util.ArrayList;
import java.util.List;

/** A program as a tree, for the tests: weight, plain sets, and an automaton with guarded silent steps. */
final class Tree {
    enum Kind { ATOMS, ACT, SUM, ROW, STAR, NOT }

    final Kind kind;
    final int value;
    final List<Tree> kids = new ArrayList<>();

    private Tree(Kind kind, int value, Tree... kids) {
        this.kind = kind;
        this.value = value;
        this.kids.addAll(List.of(kids));
    }

    static Tree atoms(int set) {
        return new Tree(Kind.ATOMS, set);
    }

    static Tree act(int act) {
        return new Tree(Kind.ACT, act);
    }

    static Tree sum(Tree x, Tree y) {
        return new Tree(Kind.SUM, 0, x, y);
    }

    static Tree row(Tree x, Tree y) {
        return new Tree(Kind.ROW, 0, x, y);
    }

    static Tree star(Tree x) {
        return new Tree(Kind.STAR, 0, x);
    }

    static Tree not(Tree x) {
        return new Tree(Kind.NOT, 0, x);
    }

    static Tree choice(Tree test, Tree x, Tree y) {
        return sum(row(test, x), row(not(test), y));
    }

    static Tree loop(Tree test, Tree x) {
        return row(star(row(test, x)), not(test));
    }

    /** The test of an if stands twice in the tree, but it has no acts. */
    int weight() {
        int weight = kind == Kind.ACT ? 1 : 0;
        for (Tree kid : kids) {
            weight += kid.weight();
        }
        return weight;
    }

    int plainSet(int all) {
        switch (kind) {
            case ATOMS:
                return value & all;
            case SUM:
                return kids.get(0).plainSet(all) | kids.get(1).plainSet(all);
            case ROW:
                return kids.get(0).plainSet(all) & kids.get(1).plainSet(all);
            case STAR:
                return all;
            case NOT:
                return all & ~kids.get(0).plainSet(all);
            default:
                throw new IllegalStateException("not plain");
        }
    }

    /** Nodes 0 (start) and 1 (end); a silent edge is {from, to, -1, atoms}, another {from, to, act, 0}. */
    static final class Net {
        final List<int[]> edges = new ArrayList<>();
        int nodes = 2;

        Net(Tree tree, int all) {
            lay(tree, 0, 1, all);
        }

        private void lay(Tree tree, int from, int to, int all) {
            switch (tree.kind) {
                case ATOMS:
                case NOT:
                    edges.add(new int[] {from, to, -1, tree.plainSet(all)});
                    break;
                case ACT:
                    edges.add(new int[] {from, to, tree.value, 0});
                    break;
                case SUM:
                    lay(tree.kids.get(0), from, to, all);
                    lay(tree.kids.get(1), from, to, all);
                    break;
                case ROW: {
                    int middle = nodes++;
                    lay(tree.kids.get(0), from, middle, all);
                    lay(tree.kids.get(1), middle, to, all);
                    break;
                }
                default: {
                    int in = nodes++;
                    int out = nodes++;
                    edges.add(new int[] {from, in, -1, all});
                    edges.add(new int[] {in, to, -1, all});
                    edges.add(new int[] {out, in, -1, all});
                    lay(tree.kids.get(0), in, out, all);
                    break;
                }
            }
        }

        boolean[] close(boolean[] set, int atom) {
            boolean[] closed = set.clone();
            boolean more = true;
            while (more) {
                more = false;
                for (int[] e : edges) {
                    if (e[2] < 0 && (e[3] >> atom & 1) != 0 && closed[e[0]] && !closed[e[1]]) {
                        closed[e[1]] = true;
                        more = true;
                    }
                }
            }
            return closed;
        }

        boolean[] move(boolean[] closed, int act) {
            boolean[] to = new boolean[nodes];
            for (int[] e : edges) {
                if (e[2] == act && closed[e[0]]) {
                    to[e[1]] = true;
                }
            }
            return to;
        }
    }
}
