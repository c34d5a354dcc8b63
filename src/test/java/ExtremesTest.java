import java.lang.reflect.InvocationTargetException;
import java.lang.reflect.Method;
import java.lang.reflect.Modifier;
import java.util.ArrayList;
import java.util.Comparator;
import java.util.List;
import java.util.NoSuchElementException;
import java.util.Random;

/** Whatever the arguments and the state: no call throws but out(), and with a status above 0 a call gives NONE. */
public final class ExtremesTest {
    private static final int[] VALUES = {Integer.MIN_VALUE, Integer.MIN_VALUE + 1, -1000, -3, -2, -1, 0, 1, 2, 3, 4, 5, 6,
        7, 8, 9, 12, 13, 20, 23, 24, 31, 32, 63, 64, 255, 256, 500, 501, 65536, Integer.MAX_VALUE - 1, Integer.MAX_VALUE};
    private static final List<String> WITHOUT_STATUS = List.of("status", "feed", "fault", "out");

    public static void main(String[] args) throws IllegalAccessException {
        Watch.start("ExtremesTest");
        List<Method> face = new ArrayList<>();
        for (Method m : TestJudge.class.getDeclaredMethods()) {
            if (Modifier.isPublic(m.getModifiers())) {
                face.add(m);
            }
        }
        face.sort(Comparator.comparing(Method::getName));
        Random random = new Random(11);
        int wrong = 0;
        for (int run = 0; run < 900; run++) {
            TestJudge judge = new TestJudge();
            // With each goes one of status(), and some to tell texts: a judge is good for 512.
            for (int call = 0; call < 210; call++) {
                if (call % 70 == 15) {
                    Asked.load(judge, TextMaker.text(random));
                }
                wrong += fine(judge, face.get(random.nextInt(face.size())), random) ? 0 : 1;
            }
        }
        System.out.println("ExtremesTest: " + (wrong == 0 ? "nothing was thrown" : wrong + " calls went wrong"));
        if (wrong != 0) {
            System.exit(1);
        }
    }

    private static boolean fine(TestJudge judge, Method method, Random random) throws IllegalAccessException {
        Object[] values = new Object[method.getParameterCount()];
        // Small ones are taken more often, so that calls get past their first looks.
        for (int i = 0; i < values.length; i++) {
            int value = random.nextInt(3) == 0 ? VALUES[random.nextInt(VALUES.length)] : random.nextInt(3);
            boolean yes = random.nextBoolean();
            values[i] = method.getParameterTypes()[i] == boolean.class ? (Object) yes : (Object) value;
        }
        try {
            long answer = ((Number) method.invoke(judge, values)).longValue();
            boolean quiet = WITHOUT_STATUS.contains(method.getName()) || judge.status() == 0;
            boolean fine = quiet ? answer >= TestJudge.NONE : answer == TestJudge.NONE;
            if (!fine) {
                System.out.println("ExtremesTest: " + method + " " + List.of(values) + " answered " + answer);
            }
            return fine;
        } catch (InvocationTargetException thrown) {
            boolean due = method.getName().equals("out") && thrown.getCause() instanceof NoSuchElementException;
            if (!due) {
                System.out.println("ExtremesTest: " + method + " " + List.of(values) + " threw " + thrown.getCause());
            }
            return due;
        }
    }
}
