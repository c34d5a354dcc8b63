import java.lang.reflect.InvocationTargetException;
import java.lang.reflect.Method;
import java.util.Arrays;
import java.util.Comparator;
import java.util.NoSuchElementException;

/**
 * For the tests of boundary cases: one method a case, named after its promise (promise04_..) or after the
 * part of the terms that says it (terms1_.. to terms3_..); each makes judges of its own.
 */
final class Edges {
    interface Setup {
        void on(TestJudge judge);
    }

    interface Call {
        long on(TestJudge judge);
    }

    private final Asked asked;

    Edges(Asked asked) {
        this.asked = asked;
    }

    static boolean isCase(Method method) {
        return method.getParameterCount() == 0 && method.getName().matches("(promise\\d\\d|terms[1-3])_\\w+");
    }

    /** Runs all cases of a class, each by its name. */
    void run(Class<?> cases) throws IllegalAccessException {
        Method[] methods = cases.getDeclaredMethods();
        Arrays.sort(methods, Comparator.comparing(Method::getName));
        int ran = 0;
        for (Method method : methods) {
            if (isCase(method)) {
                asked.part(method.getName());
                ran++;
                try {
                    method.setAccessible(true);
                    method.invoke(null);
                } catch (InvocationTargetException thrown) {
                    asked.due("the case, which threw " + thrown.getCause(), 1, 0);
                }
            }
        }
        asked.part("all");
        asked.due("no case in " + cases.getName(), ran == 0 ? 1 : 0, 0);
        System.out.println(cases.getName() + ": " + ran + " cases");
        asked.end();
    }

    /** A call of a judge that is set up: NONE, its status, and nothing else can be seen to have changed. */
    void refused(String call, Setup setup, Call refused, int status) {
        TestJudge judge = new TestJudge();
        setup.on(judge);
        asked.denied(call, judge, refused.on(judge), status);
        alike(call, j -> {
            setup.on(j);
            refused.on(j);
        }, setup);
    }

    /** out() throws, and nothing can be seen to have changed. */
    void thrown(String call, Setup setup, int i) {
        TestJudge judge = new TestJudge();
        setup.on(judge);
        int status = judge.status();
        asked.due(call + " throws", throwing(judge, i) ? 1 : 0, 1);
        asked.due(call + ", status", judge.status(), status);
        alike(call, j -> {
            setup.on(j);
            throwing(j, i);
        }, setup);
    }

    /** Behind both ways to get there, a judge is the same in all that can be seen, but its status. */
    void alike(String call, Setup one, Setup other) {
        for (int side = 0; side < Sight.SIDES; side++) {
            String[] got = seen(one, side);
            String[] want = seen(other, side);
            int apart = Arrays.mismatch(got, want);
            if (apart >= 0) {
                String line = apart < got.length ? got[apart] : "less";
                String due = apart < want.length ? want[apart] : "less";
                asked.due(call + " changed something: " + line + ", not " + due + ":", 1, 0);
                return;
            }
        }
        asked.due(call, 0, 0);
    }

    private static String[] seen(Setup setup, int side) {
        TestJudge judge = new TestJudge();
        setup.on(judge);
        return Sight.of(judge, side).split("\n");
    }

    static boolean throwing(TestJudge judge, int i) {
        try {
            judge.out(i);
            return false;
        } catch (NoSuchElementException none) {
            return true;
        }
    }

    /** A text with a fault, told to a judge that holds another one. */
    void fault(String text, int kind, int place) {
        TestJudge judge = Asked.told("tests k;acts m;let n=k m;");
        asked.denied(text, judge, Asked.load(judge, text), 9);
        asked.due(text + ": kind", judge.fault(0), kind);
        asked.due(text + ": place", judge.fault(1), place);
        asked.given(text + ": programs stay", judge, judge.many(2), 1);
        asked.given(text + ": strings stay", judge, judge.count(0, 1), 2);
    }

    /** A text without a fault. */
    TestJudge fine(String text, int programs) {
        TestJudge judge = new TestJudge();
        asked.given(text, judge, Asked.load(judge, text), programs);
        asked.due(text + ": kind", judge.fault(0), 0);
        asked.due(text + ": place", judge.fault(1), TestJudge.NONE);
        return judge;
    }

    /**
     * A judge with something of everything: 2 tests, 2 acts, 2 facts of which one is assumed, 5 programs
     * (b p; all strings; none; p b q; b p (b + c)), 3 actions, a fault, OUT, a tape of 20 bytes, a walk along 1.
     */
    static void rich(TestJudge judge) {
        withoutTape(judge);
        tape(judge);
    }

    static void tape(TestJudge judge) {
        Asked.feed(judge, "let k=1;let k=0;");
    }

    static void withoutTape(TestJudge judge) {
        Asked.load(judge, "tests b c;acts p q;let x=b p;let y=(p+q)*;let z=0;let w=p b q;let v=b+c;zero p q;zero b c;");
        judge.make(1, 0, 4, 0);
        judge.drop(4);
        judge.assume(0, false);
        dress(judge, 0, 1);
    }

    /** To what a judge holds: a fault, OUT, a walk. */
    static void dress(TestJudge judge, int printed, int walked) {
        Asked.load(judge, "tests if;");
        judge.print(printed);
        judge.walk(walked);
        judge.step(0, 0);
    }

    static void empty(TestJudge judge) {
    }
}
