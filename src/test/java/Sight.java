import java.util.NoSuchElementException;

/** For the tests: all that can be seen of a judge, a line for each answer; the calls (some 300) use it up. */
final class Sight {
    private static final int MOST_OUT = 40;

    private final TestJudge judge;
    private final StringBuilder seen = new StringBuilder();

    private Sight(TestJudge judge) {
        this.judge = judge;
    }

    static String of(TestJudge judge) {
        Sight sight = new Sight(judge);
        sight.latest();
        sight.held();
        sight.goOn();
        sight.takeBack();
        sight.layers();
        sight.tape();
        return sight.seen.toString();
    }

    private long see(String call, long answer) {
        seen.append(call).append(" = ").append(answer).append('\n');
        return answer;
    }

    private void latest() {
        see("fault(0)", judge.fault(0));
        see("fault(1)", judge.fault(1));
        for (int what = 0; what < 4; what++) {
            see("walked(" + what + ")", judge.walked(what));
        }
        for (int i = 0; i < MOST_OUT; i++) {
            try {
                see("out(" + i + ")", judge.out(i));
            } catch (NoSuchElementException none) {
                return;
            }
        }
    }

    private void held() {
        for (int what = 0; what < 8; what++) {
            see("many(" + what + ")", judge.many(what));
        }
        for (int fact = 0; fact < 2; fact++) {
            see("fact(" + fact + ", 0)", judge.fact(fact, 0));
            see("fact(" + fact + ", 1)", judge.fact(fact, 1));
        }
        int programs = judge.many(2);
        for (int p = 0; p < programs; p++) {
            see("program(" + p + ", 0)", judge.program(p, 0));
            see("atoms(" + p + ")", judge.atoms(p));
            see("count(" + p + ", 2)", judge.count(p, 2));
            see("rests(" + p + ")", judge.rests(p));
        }
    }

    /** By the first letter that the walk takes. */
    private void goOn() {
        for (int i = 0; i < 8; i++) {
            if (see("step(" + i / 2 + ", " + i % 2 + ")", judge.step(i / 2, i % 2)) >= 0) {
                break;
            }
        }
        see("walked(1)", judge.walked(1));
        see("walked(2)", judge.walked(2));
    }

    private void takeBack() {
        for (int i = 0; i < 9 && see("undo()", judge.undo()) >= 0; i++) {
            see("many(5)", judge.many(5));
            int programs = (int) see("many(2)", judge.many(2));
            for (int p = 0; p < programs; p++) {
                see("count(" + p + ", 1)", judge.count(p, 1));
            }
        }
        see("walked(0)", judge.walked(0));
    }

    /** Of the two last programs: how often something can be made of them, one behind the other. */
    private void layers() {
        for (int i = 0; i < 8 && judge.many(2) > 2; i++) {
            judge.drop(0);
        }
        for (int p = 0; p < judge.many(2) && p < 2; p++) {
            int made = judge.make(2, p, p, 0);
            for (int i = 0; i < 6 && made >= 0; i++) {
                made = (int) see("make(2, ..)", judge.make(2, made, made, 0));
            }
            for (int i = 0; i < 8 && judge.many(2) > 2; i++) {
                judge.drop(2);
            }
        }
    }

    private void tape() {
        int size = (int) see("feed()", judge.feed(0x3f3f3f3f, 0, 0, 0, 0));
        see("load()", judge.load(size < 0 ? 500 : size));
        see("fault(0)", judge.fault(0));
        see("fault(1)", judge.fault(1));
    }
}
