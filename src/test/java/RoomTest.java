import java.lang.management.ManagementFactory;

/** Runs of 512 dear calls stay far below the room that a run has (7.3 million elements in all). */
public final class RoomTest {
    /** Four bytes an element at least: half of the room. */
    private static final long MOST_BYTES = 7_300_000L * 4 / 2;
    private static final com.sun.management.ThreadMXBean THREADS =
            (com.sun.management.ThreadMXBean) ManagementFactory.getThreadMXBean();
    private static int wrong = 0;
    private static long sink = 0;

    public static void main(String[] args) {
        Watch.start("RoomTest");
        StringBuilder heavy = new StringBuilder("tests b c d;acts p;zero !c p (c+!d b) p (b+!d);");
        String[] programs = {"((b+!d)p p(c+!d b)p p!c+d p(!b+c d))*", "(!b p p(c+!d b)p p!d+!d p!b d)*",
            "(!d p c+p(b+!d)p p(b+c)p(b+!d))*", "((c+!d b)p p(b+!d)p p(b+!d)+p(!b+c d))*", "(b p d+!c p p p p(c+!d b))*",
            "(!b p p(b+!d)p b c p(b+!d)+!c p!d)*", "(b p+p d p)*", "(p!c p+!d p c)*"};
        for (int i = 0; i < programs.length; i++) {
            heavy.append("let v").append((char) ('a' + i)).append("=").append(programs[i]).append(";");
        }
        measure("loads", text("acts p;let x=p p p p p", " 1", ";"), 0);
        measure("stars", text("acts p;let x=(p p p p p)", "*", ";"), 0);
        measure("brackets", text("acts p;let x=p p p p p", "(1)", ";"), 0);
        measure("texts too heavy", text("acts p;let x=p", " p", ";"), 0);
        for (int kind = 1; kind <= 7; kind++) {
            measure("calls of kind " + kind, heavy.toString(), kind);
        }
        System.out.println("RoomTest: " + (wrong == 0 ? "all runs fit" : wrong + " runs do not fit") + (sink == 1 ? " " : ""));
        if (wrong != 0) {
            System.exit(1);
        }
    }

    private static String text(String start, String more, String end) {
        StringBuilder text = new StringBuilder(start);
        while (text.length() + more.length() + end.length() <= 500) {
            text.append(more);
        }
        return text.append(end).toString();
    }

    private static void measure(String what, String text, int kind) {
        // Once ahead, so that what the machine makes for itself is not counted.
        for (int round = 0; round < 2; round++) {
            int[][] words = words(text);
            long before = THREADS.getThreadAllocatedBytes(Thread.currentThread().getId());
            run(words, text.length(), kind);
            long used = THREADS.getThreadAllocatedBytes(Thread.currentThread().getId()) - before;
            if (round == 1 && used > MOST_BYTES) {
                wrong++;
                System.out.println("RoomTest: " + what + " take " + used + " bytes");
            }
        }
    }

    private static int[][] words(String text) {
        int[][] words = new int[(text.length() + 19) / 20][5];
        for (int i = 0; i < words.length * 20; i++) {
            words[i / 20][i % 20 / 4] = words[i / 20][i % 20 / 4] << 8 | (i < text.length() ? text.charAt(i) : ' ');
        }
        return words;
    }

    private static void run(int[][] words, int length, int kind) {
        TestJudge judge = new TestJudge();
        int calls = 0;
        while (calls < 512) {
            if (calls == 0 || kind == 0) {
                for (int[] w : words) {
                    judge.feed(w[0], w[1], w[2], w[3], w[4]);
                    calls++;
                }
                judge.load(length);
            }
            sink += ask(judge, kind, calls);
            calls++;
        }
    }

    private static long ask(TestJudge judge, int kind, int i) {
        switch (kind) {
            case 1:
                return judge.kinds();
            case 2:
                return judge.both(i % 8, i / 8 % 8, 12);
            case 3:
                return judge.swaps(6 + i % 2, 6 + i / 2 % 2);
            case 4:
                return judge.print(i % 8) + judge.greatest(i % 8) + judge.telling(i % 8, i / 8 % 8, 0);
            case 5:
                return judge.drop(0) + judge.undo();
            case 6:
                return judge.drop(7) + judge.make(i % 5, 0, 6, 0) + judge.make(2, 0, 6, 0) + judge.undo() + judge.undo();
            case 7:
                return judge.needs(i % 8, i / 8 % 8) + judge.fewest(i % 8, i / 8 % 8) + judge.keeps(i % 8, 255);
            default:
                return 0;
        }
    }
}
