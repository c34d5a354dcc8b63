import java.util.HashMap;
import java.util.List;
import java.util.Map;
import java.util.Set;
import java.util.TreeSet;

/**
 * For the tests: strings straight from the document's words, up to a length: sets joined one by one, less
 * those of which some part is a string of a fact. A digit stands for each atom, a letter for each act.
 */
final class Strings {
    private final int atoms;
    private final int longest;
    private final Map<Tree, TreeSet<String>> known = new HashMap<>();

    Strings(int atoms, int longest) {
        this.atoms = atoms;
        this.longest = longest;
    }

    /** Those of a program that are not forbidden by the facts of a set. */
    TreeSet<String> allowed(Tree program, List<Tree> facts, int set) {
        Set<String> bad = new TreeSet<>();
        for (int fact = 0; fact < facts.size(); fact++) {
            if ((set >> fact & 1) != 0) {
                bad.addAll(of(facts.get(fact)));
            }
        }
        TreeSet<String> good = new TreeSet<>(of(program));
        good.removeIf(s -> forbidden(s, bad));
        return good;
    }

    static boolean forbidden(String s, Set<String> bad) {
        for (int i = 0; i < s.length(); i += 2) {
            for (int k = i + 1; k <= s.length(); k += 2) {
                if (bad.contains(s.substring(i, k))) {
                    return true;
                }
            }
        }
        return false;
    }

    private TreeSet<String> of(Tree tree) {
        TreeSet<String> set = known.get(tree);
        if (set == null) {
            set = write(tree);
            known.put(tree, set);
        }
        return set;
    }

    private TreeSet<String> write(Tree tree) {
        TreeSet<String> set = new TreeSet<>();
        switch (tree.kind) {
            case ATOMS -> {
                for (int atom = 0; atom < atoms; atom++) {
                    if ((tree.value >> atom & 1) != 0) {
                        set.add("" + atom);
                    }
                }
            }
            case ACT -> {
                for (int i = 0; i < atoms * atoms; i++) {
                    set.add("" + i / atoms + (char) ('a' + tree.value) + i % atoms);
                }
            }
            case SUM -> {
                set.addAll(of(tree.kids.get(0)));
                set.addAll(of(tree.kids.get(1)));
            }
            case ROW -> set.addAll(join(of(tree.kids.get(0)), of(tree.kids.get(1))));
            case NOT -> {
                set.addAll(of(Tree.atoms(255)));
                set.removeAll(of(tree.kids.get(0)));
            }
            default -> {
                Set<String> one = of(tree.kids.get(0));
                Set<String> more = of(Tree.atoms(255));
                while (set.addAll(more)) {
                    more = join(more, one);
                }
            }
        }
        return set;
    }

    private Set<String> join(Set<String> x, Set<String> y) {
        Map<Character, TreeSet<String>> byFirst = new HashMap<>();
        for (String t : y) {
            byFirst.computeIfAbsent(t.charAt(0), c -> new TreeSet<>()).add(t);
        }
        Set<String> set = new TreeSet<>();
        for (String s : x) {
            for (String t : byFirst.getOrDefault(s.charAt(s.length() - 1), new TreeSet<>())) {
                if ((s.length() + t.length() - 1) / 2 <= longest) {
                    set.add(s + t.substring(1));
                }
            }
        }
        return set;
    }
}
