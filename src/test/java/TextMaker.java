import java.util.ArrayList;
import java.util.List;
import java.util.Random;

/** Random texts for the tests, some with a few bytes or tokens spoilt. */
final class TextMaker {
    private static final String[] TOKENS = {"tests", "acts", "let", "zero", "if", "then", "else", "while", "do",
        "end", "0", "1", "+", "*", "!", "(", ")", "=", ";", "p", "q", "r", "b", "c", "d", "x", "y", "z", "foo",
        "longer", "toolong", "?", "A", "\t", "2", "\u00e9", "(((((", "!!!!!", "p p p", "let v = 1;", "zero 0;"};

    private final Random random;
    private final List<String> tests = new ArrayList<>();
    private final List<String> acts = new ArrayList<>();
    private final List<String> plain = new ArrayList<>();
    private final List<String> programs = new ArrayList<>();
    private final List<Integer> weights = new ArrayList<>();
    private int left = 0;

    private TextMaker(Random random) {
        this.random = random;
    }

    static String text(Random random) {
        String text;
        do {
            TextMaker maker = new TextMaker(random);
            text = random.nextInt(3) == 0 ? maker.richLines() : maker.lines();
        } while (text.length() > 500);
        return text;
    }

    static String spoilt(Random random) {
        StringBuilder text = new StringBuilder(text(random));
        for (int i = 1 + random.nextInt(3); i > 0; i--) {
            int at = random.nextInt(text.length() + 1);
            int kind = random.nextInt(4);
            if (kind == 0 && at < text.length()) {
                text.deleteCharAt(at);
            } else if (kind == 1) {
                text.setLength(at);
            } else {
                int space = text.indexOf(" ", at);
                text.insert(space < 0 ? at : space, " " + TOKENS[random.nextInt(TOKENS.length)] + " ");
            }
        }
        if (text.length() > 500) {
            text.setLength(500);
        }
        return text.toString();
    }

    private String lines() {
        StringBuilder text = new StringBuilder();
        int testCount = random.nextInt(8) == 0 ? 3 : random.nextInt(3);
        int actCount = random.nextInt(8) == 0 ? 0 : 1 + random.nextInt(3);
        String[] testNames = {"b", "c", "dd"};
        String[] actNames = {"p", "q", "rrrrrr"};
        for (int i = 0; i < testCount; i++) {
            tests.add(testNames[i]);
            text.append("tests ").append(testNames[i]).append(";");
        }
        if (actCount > 0) {
            text.append("acts");
        }
        for (int i = 0; i < actCount; i++) {
            acts.add(actNames[i]);
            text.append(" ").append(actNames[i]);
        }
        text.append(actCount > 0 ? " ;\n" : "");
        int factLeft = 2;
        int factCount = random.nextInt(3);
        int letCount = 1 + random.nextInt(6);
        for (int i = 0; i < letCount; i++) {
            while (factCount > 0 && random.nextInt(3) == 0) {
                left = random.nextInt(factLeft + 1);
                int before = left;
                text.append("zero ").append(sum(0, 2)).append(";");
                factLeft -= before - left;
                factCount--;
            }
            left = 1 + random.nextInt(5);
            int before = left;
            String name = "v" + (char) ('a' + i);
            text.append("let ").append(name).append(" = ").append(sum(0, 3)).append(" ;");
            programs.add(name);
            weights.add(before - left);
        }
        return text.toString();
    }

    /** Heavy programs of few acts, that have many rests and differ late. */
    private String richLines() {
        int testCount = 1 + random.nextInt(3);
        int actCount = 1 + random.nextInt(2);
        StringBuilder text = new StringBuilder("tests");
        for (int i = 0; i < testCount; i++) {
            tests.add(String.valueOf((char) ('b' + i)));
            text.append(" ").append(tests.get(i));
        }
        text.append(";acts p").append(actCount == 2 ? " q;" : ";");
        acts.addAll(List.of("p", "q").subList(0, actCount));
        int kind = random.nextInt(4);
        if (kind == 1) {
            text.append("zero ").append(guard()).append(" ").append(heavy(2, 0)).append(";");
        } else if (kind == 2) {
            text.append("zero ").append(heavy(1, 0)).append(";zero ").append(heavy(1, 0)).append(" ").append(guard()).append(";");
        }
        int letCount = 2 + random.nextInt(3);
        for (int i = 0; i < letCount; i++) {
            int weight = 1 + Math.max(random.nextInt(5), random.nextInt(5));
            boolean star = random.nextInt(3) == 0;
            text.append("let v").append((char) ('a' + i)).append("=").append(star ? "(" : "");
            text.append(heavy(weight, star ? 1 : 0)).append(star ? ")*;" : ";");
        }
        return text.toString();
    }

    private String guard() {
        String x = (random.nextBoolean() ? "!" : "") + tests.get(random.nextInt(tests.size()));
        String y = (random.nextBoolean() ? "!" : "") + tests.get(random.nextInt(tests.size()));
        int kind = random.nextInt(4);
        return kind == 0 ? x + " " + y : kind == 1 ? "(" + x + "+" + y + ")" : kind == 2 ? x : "1";
    }

    private String heavy(int weight, int open) {
        if (weight == 1) {
            String act = acts.get(random.nextInt(acts.size()));
            String ahead = random.nextInt(2) == 0 ? guard() + " " : "";
            return ahead + act + (random.nextInt(2) == 0 ? " " + guard() : "");
        }
        int first = 1 + random.nextInt(weight - 1);
        int kind = open < 2 ? random.nextInt(3) : 1;
        String x = heavy(first, kind == 1 ? open : open + 1);
        String y = heavy(weight - first, kind == 1 ? open : open + 1);
        return kind == 1 ? x + " " + y : kind == 0 ? "(" + x + " + " + y + ")" : "(" + x + " + " + y + ")*";
    }

    /** Of a weight that fits what is left. */
    private String sum(int open, int size) {
        StringBuilder text = new StringBuilder(row(open, size));
        while (random.nextInt(3) == 0) {
            text.append(" + ").append(row(open, size));
        }
        return text.toString();
    }

    private String row(int open, int size) {
        StringBuilder text = new StringBuilder(one(open, size));
        while (random.nextInt(2) == 0) {
            text.append(" ").append(one(open, size));
        }
        return text.toString();
    }

    private String one(int open, int size) {
        String base = base(open, size);
        return random.nextInt(5) == 0 ? base + "*" : base;
    }

    private String base(int open, int size) {
        int kind = random.nextInt(12);
        if (kind < 4 && left > 0 && !acts.isEmpty()) {
            left--;
            return acts.get(random.nextInt(acts.size()));
        }
        if (kind == 4 && !programs.isEmpty()) {
            int which = random.nextInt(programs.size());
            if (weights.get(which) <= left) {
                left -= weights.get(which);
                return programs.get(which);
            }
        }
        if (kind >= 5 && kind < 9 && open < 4 && size > 0) {
            if (kind == 5) {
                return "!" + test(open + 1, size - 1);
            }
            if (kind == 6) {
                return "(" + sum(open + 1, size - 1) + ")";
            }
            if (kind == 7) {
                return "if " + test(open + 1, size - 1) + " then " + sum(open + 1, size - 1)
                        + " else " + sum(open + 1, size - 1) + " end";
            }
            return "while " + test(open + 1, size - 1) + " do " + sum(open + 1, size - 1) + " end";
        }
        if (kind == 9) {
            return random.nextInt(3) == 0 ? "0" : "1";
        }
        return tests.isEmpty() ? "1" : test(open, 0);
    }

    private String test(int open, int size) {
        int keep = left;
        left = 0;
        String text = tests.isEmpty() ? random.nextBoolean() ? "1" : "0" : tests.get(random.nextInt(tests.size()));
        if (size > 0 && open < 4 && random.nextInt(3) == 0) {
            text = "(" + sum(open + 1, size - 1) + ")";
        }
        left = keep;
        return text;
    }
}
