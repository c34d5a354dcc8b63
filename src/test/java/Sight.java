import java.util.NoSuchElementException;

/**
 * For the tests: what can be seen of a judge, a line for each answer. The calls use the judge up, so that
 * each side of it is looked at with a judge of its own; few of them are refused ones.
 */
final class Sight {
    static final int SIDES = 7;
    private static final int MOST_OUT = 40;

    private final TestJudge judge;
    private final StringBuilder seen = new StringBuilder();

    private Sight(TestJudge judge) {
        this.judge = judge;
    }

    static String of(TestJudge judge, int side) {
        Sight sight = new Sight(judge);
        switch (side) {
            case 0 -> sight.fault();
            case 1 -> sight.out();
            case 2 -> sight.held();
            case 3 -> sight.walk();
            case 4 -> sight.takeBack();
            case 5 -> sight.layers();
            default -> sight.tape();
        }
        return sight.seen.toString();
    }

    private long see(String call, long answer) {
        seen.append(call).append(" = ").append(answer).append('\n');
        return answer;
    }

    private void fault() {
        see("fault(0)", judge.fault(0));
        see("fault(1)", judge.fault(1));
    }

    private void out() {
        for (int i = 0; i < MOST_OUT; i++) {
            try {
                see("out(" + i + ")", judge.out(i));
            } catch (NoSuchElementException none) {
                return;
            }
        }
    }

    private void held() {
        for (int what = 0; what < 8; what++) {
            see("many(" + what + ")", judge.many(what));
        }
        int facts = judge.many(3);
        for (int fact = 0; fact < facts; fact++) {
            see("fact(" + fact + ", 0)", judge.fact(fact, 0));
            see("fact(" + fact + ", 1)", judge.fact(fact, 1));
        }
        int programs = judge.many(2);
        for (int p = 0; p < programs; p++) {
            see("program(" + p + ", 0)", judge.program(p, 0));
            see("atoms(" + p + ")", judge.atoms(p));
            see("count(" + p + ", 2)", judge.count(p, 2));
            see("rests(" + p + ")", judge.rests(p));
        }
    }

    /** Where it is, and on by the first letter that it takes. */
    private void walk() {
        for (int what = 0; what < 4; what++) {
            see("walked(" + what + ")", judge.walked(what));
        }
        for (int i = 0; i < 8; i++) {
            if (see("step(" + i / 2 + ", " + i % 2 + ")", judge.step(i / 2, i % 2)) >= 0) {
                break;
            }
        }
        see("walked(1)", judge.walked(1));
        see("walked(2)", judge.walked(2));
    }

    private void takeBack() {
        int left = (int) see("many(6)", judge.many(6));
        for (int i = 0; i < left; i++) {
            see("undo()", judge.undo());
            see("many(5)", judge.many(5));
            int programs = (int) see("many(2)", judge.many(2));
            for (int p = 0; p < programs; p++) {
                see("count(" + p + ", 1)", judge.count(p, 1));
            }
        }
        see("undo() at last", judge.undo());
    }

    /** Of the two last programs: how often something can be made of them, one behind the other. */
    private void layers() {
        for (int i = 0; i < 8 && judge.many(2) > 2; i++) {
            judge.drop(0);
        }
        for (int p = 0; p < judge.many(2) && p < 2; p++) {
            int made = judge.make(2, p, p, 0);
            for (int i = 0; i < 6 && made >= 0; i++) {
                made = (int) see("make(2, ..)", judge.make(2, made, made, 0));
            }
            for (int i = 0; i < 8 && judge.many(2) > 2; i++) {
                judge.drop(2);
            }
        }
    }

    private void tape() {
        int size = (int) see("feed()", judge.feed(0x3f3f3f3f, 0, 0, 0, 0));
        see("load()", judge.load(size < 0 ? 500 : size));
        fault();
    }
}
