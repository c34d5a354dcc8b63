import java.util.ArrayList;
import java.util.List;

/** For the tests: a text read with a stack of open things instead of recursion. */
final class TextModel {
    private static final List<String> FIXED =
            List.of("tests", "acts", "let", "zero", "if", "then", "else", "while", "do", "end");

    private record Token(String text, int place) {
        boolean isName() {
            return !text.isEmpty() && Character.isLetter(text.charAt(0)) && !FIXED.contains(text);
        }

        boolean beginsBase() {
            return isName() || opens() || text.equals("0") || text.equals("1");
        }

        boolean opens() {
            return text.equals("!") || text.equals("(") || text.equals("if") || text.equals("while");
        }
    }

    private static final class Open {
        String what;
        Tree sum;
        Tree row;
        Tree one;
        Tree test;
        Tree yes;

        Open(String what) {
            this.what = what;
        }

        void endRow() {
            Tree all = row == null ? one : Tree.row(row, one);
            sum = sum == null ? all : Tree.sum(sum, all);
            row = null;
            one = null;
        }

        Tree takeSum() {
            endRow();
            Tree all = sum;
            sum = null;
            return all;
        }
    }

    final List<String> tests = new ArrayList<>();
    final List<String> acts = new ArrayList<>();
    final List<String> names = new ArrayList<>();
    final List<Tree> programs = new ArrayList<>();
    final List<Tree> facts = new ArrayList<>();
    int fault = 0;
    int place = -1;

    private final List<Token> tokens = new ArrayList<>();
    private int at = 0;

    TextModel(String text) {
        cut(text);
        while (fault == 0 && !here("")) {
            line();
        }
    }

    /** "?" stands for what is no token, "" for the end. */
    private void cut(String text) {
        int i = 0;
        while (i < text.length()) {
            char c = text.charAt(i);
            int end = i;
            while (end < text.length() && text.charAt(end) >= 'a' && text.charAt(end) <= 'z') {
                end++;
            }
            if (c == '\n' || c == ' ') {
                i++;
            } else if (end > i) {
                tokens.add(new Token(end - i > 6 ? "?" : text.substring(i, end), i));
                i = end;
            } else {
                tokens.add(new Token("01+*!()=;".indexOf(c) >= 0 ? String.valueOf(c) : "?", i));
                i++;
            }
        }
        tokens.add(new Token("", text.length()));
    }

    private boolean here(String text) {
        return tokens.get(at).text.equals(text);
    }

    private void fail(int kind, int tokenAt) {
        if (fault == 0) {
            fault = kind;
            place = tokens.get(tokenAt).place;
        }
    }

    private void failHere() {
        fail(here("?") ? 1 : 2, at);
    }

    private void line() {
        boolean late = !programs.isEmpty() || !facts.isEmpty();
        if (here("tests") && !late) {
            newNames(tests);
        } else if (here("acts") && !late) {
            newNames(acts);
        } else if (here("let")) {
            let();
        } else if (here("zero")) {
            zero();
        } else {
            failHere();
        }
    }

    private boolean taken(String name) {
        return tests.contains(name) || acts.contains(name) || names.contains(name);
    }

    private void newNames(List<String> list) {
        at++;
        int first = at;
        while (fault == 0 && !(at > first && here(";"))) {
            if (!tokens.get(at).isName()) {
                failHere();
            } else if (taken(tokens.get(at).text)) {
                fail(3, at);
            } else if (list.size() == 3) {
                fail(4, at);
            } else {
                list.add(tokens.get(at).text);
                at++;
            }
        }
        at++;
    }

    private void let() {
        if (programs.size() == 8) {
            fail(4, at);
            return;
        }
        at++;
        if (!tokens.get(at).isName()) {
            failHere();
            return;
        }
        String name = tokens.get(at).text;
        if (taken(name)) {
            fail(3, at);
            return;
        }
        at++;
        if (!here("=")) {
            failHere();
            return;
        }
        at++;
        Tree tree = sum();
        if (fault == 0 && tree.weight() > 5) {
            fail(5, at);
        }
        if (fault == 0) {
            names.add(name);
            programs.add(tree);
            at++;
        }
    }

    private void zero() {
        if (facts.size() == 2) {
            fail(4, at);
            return;
        }
        at++;
        Tree tree = sum();
        if (fault != 0) {
            return;
        }
        int weight = tree.weight();
        for (Tree fact : facts) {
            weight += fact.weight();
        }
        if (weight > 2) {
            fail(5, at);
            return;
        }
        facts.add(tree);
        at++;
    }

    /** Up to the ; that ends the line, which stays. */
    private Tree sum() {
        List<Open> open = new ArrayList<>();
        open.add(new Open(";"));
        boolean want = true;
        while (fault == 0) {
            Token token = tokens.get(at);
            Open top = open.get(open.size() - 1);
            if (want) {
                if (!token.beginsBase()) {
                    failHere();
                } else if (token.opens()) {
                    if (open.size() == 5) {
                        fail(4, at);
                    }
                    open.add(new Open(token.text));
                    at++;
                } else if (token.isName() && !taken(token.text)) {
                    fail(3, at);
                } else {
                    at++;
                    based(open, simple(token.text));
                    want = false;
                }
            } else if (token.text.equals("*")) {
                top.one = Tree.star(top.one);
                at++;
            } else if (token.text.equals("+")) {
                top.endRow();
                at++;
                want = true;
            } else if (token.beginsBase()) {
                top.row = top.row == null ? top.one : Tree.row(top.row, top.one);
                want = true;
            } else if (top.what.equals(";") && token.text.equals(";")) {
                return top.takeSum();
            } else {
                want = behindSum(open, top);
            }
        }
        return Tree.atoms(0);
    }

    private Tree simple(String text) {
        if (text.equals("0") || text.equals("1")) {
            return Tree.atoms(text.equals("0") ? 0 : 255);
        }
        if (names.contains(text)) {
            return programs.get(names.indexOf(text));
        }
        if (acts.contains(text)) {
            return Tree.act(acts.indexOf(text));
        }
        return test(tests.indexOf(text));
    }

    static Tree test(int test) {
        int set = 0;
        for (int atom = 0; atom < 8; atom++) {
            if ((atom & 1 << test) != 0) {
                set += 1 << atom;
            }
        }
        return Tree.atoms(set);
    }

    private void based(List<Open> open, Tree base) {
        Tree one = base;
        while (open.get(open.size() - 1).what.equals("!")) {
            if (one.weight() > 0) {
                fail(5, at);
            }
            open.remove(open.size() - 1);
            one = Tree.not(one);
        }
        open.get(open.size() - 1).one = one;
    }

    /** Behind a sum that is over; whether another base is wanted then. */
    private boolean behindSum(List<Open> open, Open top) {
        Tree all = top.takeSum();
        boolean test = top.what.equals("if") || top.what.equals("while");
        if (test && all.weight() > 0) {
            fail(5, at);
            return false;
        }
        String due = switch (top.what) {
            case "(" -> ")";
            case "if" -> "then";
            case "then" -> "else";
            case "else", "do" -> "end";
            case "while" -> "do";
            default -> ";";
        };
        if (!here(due)) {
            failHere();
            return false;
        }
        at++;
        if (test) {
            top.test = all;
            top.what = due;
            return true;
        }
        if (top.what.equals("then")) {
            top.yes = all;
            top.what = due;
            return true;
        }
        open.remove(open.size() - 1);
        Tree done = top.what.equals("(") ? all
                : top.what.equals("do") ? Tree.loop(top.test, all)
                : Tree.choice(top.test, top.yes, all);
        based(open, done);
        return false;
    }
}
