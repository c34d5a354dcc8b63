import java.util.NoSuchElementException;
import java.util.Random;

/** Random texts and calls, each answered by TestJudge and by Model: both have to say the same. */
public final class ModelTest {
    private static final int RUNS = 1500;
    /** A judge is good for 512 calls. */
    private static final int LAST_CALL = 512;
    private static int wrong = 0;

    private final Random random;
    private final TestJudge judge = new TestJudge();
    private final Model model = new Model();
    private final StringBuilder said = new StringBuilder();
    private int tests = 0;
    private int acts = 0;
    private int calls = 0;

    private ModelTest(long seed) {
        random = new Random(seed);
    }

    public static void main(String[] args) {
        if (args.length == 0) {
            Watch.start("ModelTest");
        }
        int runs = args.length > 0 ? Integer.parseInt(args[0]) : RUNS;
        int from = args.length > 1 ? Integer.parseInt(args[1]) : 0;
        for (int seed = from; seed < from + runs && wrong < 10; seed++) {
            new ModelTest(seed).run(seed);
        }
        System.out.println(wrong == 0 ? "ModelTest: all answers are as due" : "ModelTest: " + wrong + " runs went wrong");
        if (wrong != 0) {
            System.exit(1);
        }
    }

    private void run(long seed) {
        int before = wrong;
        while (calls < 320 && wrong == before) {
            tell(random.nextInt(4) == 0 ? TextMaker.spoilt(random) : TextMaker.text(random));
            int asked = random.nextInt(120);
            for (int i = 0; i < asked && calls < 420 && wrong == before; i++) {
                ask();
            }
        }
        if (wrong != before) {
            System.out.println("run " + seed + ":\n" + said);
        }
    }

    /** Of a call, and a call of status(). */
    private boolean due(String call, long got, long want) {
        calls += 2;
        int status = judge.status();
        boolean fine = got == want && status == model.status();
        said.append(call).append(" -> ").append(got).append(" status ").append(status);
        if (!fine) {
            said.append("  BUT DUE ").append(want).append(" status ").append(model.status());
            wrong++;
        }
        said.append('\n');
        return fine;
    }

    private void tell(String text) {
        said.append("text: ").append(text.replace('\n', '~')).append('\n');
        String padded = text + " ".repeat((20 - text.length() % 20) % 20);
        for (int i = 0; i + 20 <= padded.length(); i += 20) {
            int[] w = new int[5];
            for (int k = 0; k < 20; k++) {
                w[k / 4] = w[k / 4] << 8 | padded.charAt(i + k);
            }
            due("feed", judge.feed(w[0], w[1], w[2], w[3], w[4]), model.feed(w[0], w[1], w[2], w[3], w[4]));
        }
        int n = random.nextInt(10) == 0 ? random.nextInt(text.length() + 40) - 10 : text.length();
        due("load(" + n + ")", judge.load(n), model.load(n));
        for (int what = -1; what <= 2; what++) {
            due("fault(" + what + ")", judge.fault(what), model.fault(what));
        }
        due("many(0)", judge.many(0), model.many(0));
        due("many(1)", judge.many(1), model.many(1));
        tests = judge.many(0);
        acts = judge.many(1);
        calls += 2;
        if (random.nextInt(3) == 0) {
            due("load(0)", judge.load(-1), model.load(-1));
        }
    }

    /** A number from 0 on, below some bound for the most part. */
    private int number(int bound) {
        int kind = random.nextInt(40);
        if (kind == 0) {
            return random.nextBoolean() ? -1 : -2;
        }
        if (kind == 1) {
            return bound + random.nextInt(3);
        }
        if (kind == 2 && random.nextInt(10) == 0) {
            return random.nextInt();
        }
        return bound <= 0 ? 0 : random.nextInt(bound);
    }

    private int program() {
        calls++;
        int programs = judge.many(2);
        model.many(2);
        return number(programs);
    }

    private int set() {
        return number(1 << (1 << tests));
    }

    private void ask() {
        int p = program();
        int q = program();
        int k = number(random.nextInt(3) == 0 ? 20 : 4);
        int n = number(random.nextInt(2) == 0 ? 13 : 4);
        int atom = number(1 << tests);
        int act = number(acts);
        int set = set();
        int behind = set();
        int what = number(4);
        switch (random.nextInt(16)) {
            case 0 -> due("many(" + n + ")", judge.many(n), model.many(n));
            case 1 -> {
                due("program(" + p + "," + what + ")", judge.program(p, what), model.program(p, what));
                due("fact(" + act + "," + what + ")", judge.fact(act, what), model.fact(act, what));
            }
            case 2 -> {
                due("atoms(" + p + ")", judge.atoms(p), model.atoms(p));
                due("uses(" + p + "," + what + ")", judge.uses(p, what), model.uses(p, what));
            }
            case 3 -> {
                due("count(" + p + "," + n + ")", judge.count(p, n), model.count(p, n));
                due("both(" + p + "," + q + "," + n + ")", judge.both(p, q, n), model.both(p, q, n));
            }
            case 4 -> {
                due("least(" + p + ")", judge.least(p), model.least(p));
                due("greatest(" + p + ")", judge.greatest(p), model.greatest(p));
                due("first(" + p + "," + k + ")", judge.first(p, k), model.first(p, k));
            }
            case 5 -> {
                due("equal(" + p + "," + q + ")", judge.equal(p, q), model.equal(p, q));
                due("within(" + p + "," + q + ")", judge.within(p, q), model.within(p, q));
                due("whose(" + p + "," + q + ")", judge.whose(p, q), model.whose(p, q));
            }
            case 6 -> tellAll(p, q);
            case 7 -> {
                due("same(" + p + ")", judge.same(p), model.same(p));
                due("kinds()", judge.kinds(), model.kinds());
                due("swaps(" + p + "," + q + ")", judge.swaps(p, q), model.swaps(p, q));
            }
            case 8 -> {
                due("rests(" + p + ")", judge.rests(p), model.rests(p));
                due("rest(" + p + "," + k + ")", judge.rest(p, k), model.rest(p, k));
                due("clear(" + p + ")", judge.clear(p), model.clear(p));
                due("far(" + p + "," + k + ")", judge.far(p, k), model.far(p, k));
                due("next(" + p + "," + k + "," + atom + "," + act + ")",
                        judge.next(p, k, atom, act), model.next(p, k, atom, act));
            }
            case 9 -> {
                due("right(" + set + "," + p + "," + behind + ")",
                        judge.right(set, p, behind), model.right(set, p, behind));
                due("weakest(" + p + "," + set + ")", judge.weakest(p, set), model.weakest(p, set));
                due("strongest(" + set + "," + p + ")", judge.strongest(set, p), model.strongest(set, p));
                due("keeps(" + p + "," + set + ")", judge.keeps(p, set), model.keeps(p, set));
            }
            case 10 -> {
                due("needs(" + p + "," + q + ")", judge.needs(p, q), model.needs(p, q));
                due("fewest(" + p + "," + q + ")", judge.fewest(p, q), model.fewest(p, q));
            }
            case 11 -> walk(p);
            case 12 -> {
                int how = number(5);
                int test = number(tests);
                due("make(" + how + "," + p + "," + q + "," + test + ")",
                        judge.make(how, p, q, test), model.make(how, p, q, test));
            }
            case 13 -> act(p);
            case 14 -> due("undo()", judge.undo(), model.undo());
            default -> print(p);
        }
    }

    private void tellAll(int p, int q) {
        due("telling(" + p + "," + q + ",-2)", judge.telling(p, q, -2), model.telling(p, q, -2));
        for (int k = -1; k < 30; k++) {
            due("telling(" + p + "," + q + "," + k + ")", judge.telling(p, q, k), model.telling(p, q, k));
            if (model.status() != 0) {
                break;
            }
        }
    }

    private void walk(int p) {
        if (random.nextInt(4) != 0) {
            due("walk(" + p + ")", judge.walk(p), model.walk(p));
        }
        for (int i = random.nextInt(6); i > 0; i--) {
            int atom = number(1 << tests);
            int act = number(acts);
            due("step(" + atom + "," + act + ")", judge.step(atom, act), model.step(atom, act));
        }
        for (int what = -1; what <= 4; what++) {
            due("walked(" + what + ")", judge.walked(what), model.walked(what));
        }
    }

    private void act(int p) {
        if (random.nextInt(3) == 0) {
            due("drop(" + p + ")", judge.drop(p), model.drop(p));
        } else {
            int fact = number(2);
            boolean yes = random.nextBoolean();
            due("assume(" + fact + "," + yes + ")", judge.assume(fact, yes), model.assume(fact, yes));
        }
    }

    private void print(int p) {
        int size = judge.print(p);
        due("print(" + p + ")", size, model.print(p));
        for (int i = -1; i <= size + 1 && calls < LAST_CALL; i++) {
            calls++;
            int got;
            try {
                got = judge.out(i);
            } catch (NoSuchElementException none) {
                got = -1;
            }
            if (got != model.out(i)) {
                due("out(" + i + ")", got, model.out(i));
                return;
            }
        }
    }
}
