import java.util.Arrays;
import java.util.List;

/** Counts the answers that are not due, and makes halls ready for the tests. */
final class Check {
    interface Call {
        void go();
    }

    static final Class<? extends RuntimeException> INDEX = IndexOutOfBoundsException.class;
    static final Class<? extends RuntimeException> ARGUMENT = IllegalArgumentException.class;
    static final Class<? extends RuntimeException> STATE = IllegalStateException.class;

    private static int wrong = 0;

    private Check() {
    }

    static void due(String call, long want, long got) {
        if (want != got) {
            wrong++;
            System.out.println(call + " answered " + got + ", due is " + want);
        }
    }

    static void due(String call, boolean want, boolean got) {
        due(call, want ? 1 : 0, got ? 1 : 0);
    }

    static void fails(String call, Class<? extends RuntimeException> want, Call made) {
        Class<?> got = null;
        try {
            made.go();
        } catch (RuntimeException e) {
            got = isOwn(e) ? e.getClass() : null;
        }
        if (got != want) {
            wrong++;
            System.out.println(call + " threw " + got + ", due is " + want);
        }
    }

    /** Whether the hall threw it itself, by a throw statement, and not a list or an array in it. */
    static boolean isOwn(RuntimeException thrown) {
        StackTraceElement[] trace = thrown.getStackTrace();
        Class<?> kind = thrown.getClass();
        boolean isDue = kind == INDEX || kind == ARGUMENT || kind == STATE;
        String place = trace.length > 0 ? trace[0].getClassName() : "";
        return isDue && (place.equals("RejudgeHall") || place.startsWith("RejudgeHall$"));
    }

    /** The first place at which two rows of answers differ is told. */
    static void same(String name, List<String> want, List<String> got) {
        int place = 0;
        while (place < Math.min(want.size(), got.size()) && want.get(place).equals(got.get(place))) {
            place++;
        }
        if (place < Math.max(want.size(), got.size())) {
            wrong++;
            String due = place < want.size() ? want.get(place) : "no more";
            String there = place < got.size() ? got.get(place) : "no more";
            System.out.println(name + ": " + there + ", due is " + due);
        }
    }

    static void end() {
        if (wrong != 0) {
            System.out.println(wrong + " answers are not as due");
            System.exit(1);
        }
    }

    /** Puts a program to the desk, as pairs of sort and number. */
    static void code(RejudgeHall hall, int... pairs) {
        for (int i = 0; i < pairs.length; i += 2) {
            hall.code(pairs[i], pairs[i + 1]);
        }
    }

    static void input(RejudgeHall hall, int... numbers) {
        for (int number : numbers) {
            hall.input(number);
        }
    }

    /** A program that prints the first number of its input. */
    static void echo(RejudgeHall hall) {
        code(hall, RejudgeHall.READ, 0, RejudgeHall.PRINT, 0);
    }

    /** A program that prints one number, whatever its input. */
    static void constant(RejudgeHall hall, int number) {
        code(hall, RejudgeHall.PUSH, number, RejudgeHall.PRINT, 0);
    }

    /** All of one row of pairs, and then all of another. */
    static int[] join(int[] head, int... tail) {
        int[] all = Arrays.copyOf(head, head.length + tail.length);
        System.arraycopy(tail, 0, all, head.length, tail.length);
        return all;
    }

    /** Pairs as often as told. */
    static int[] times(int count, int... pairs) {
        int[] all = new int[0];
        for (int i = 0; i < count; i++) {
            all = join(all, pairs);
        }
        return all;
    }

    /** A program of one JUMP a step, which ends behind its last instruction, in as many steps as it has. */
    static int[] walk(int length) {
        int[] pairs = new int[2 * length];
        for (int i = 0; i < length; i++) {
            pairs[2 * i] = RejudgeHall.JUMP;
            pairs[2 * i + 1] = i + 1;
        }
        return pairs;
    }

    /** Counts down from a number, in five steps each, at the instructions 1 to 5; what follows stands at 6. */
    static int[] countDown(int rounds) {
        return new int[] {RejudgeHall.PUSH, rounds, RejudgeHall.PUSH, 1, RejudgeHall.SUB, 0,
            RejudgeHall.DUP, 0, RejudgeHall.JZ, 6, RejudgeHall.JUMP, 1};
    }

    /** A hall whose desk has a program and an input. */
    static RejudgeHall desk(int[] pairs, int... numbers) {
        RejudgeHall hall = new RejudgeHall();
        code(hall, pairs);
        input(hall, numbers);
        return hall;
    }

    /** A hall with problems that echo; each has one test, of the group 0, with the input 5. */
    static RejudgeHall echoHall(int problems) {
        RejudgeHall hall = new RejudgeHall();
        for (int i = 0; i < problems; i++) {
            echo(hall);
            hall.problem(10, RejudgeHall.EXACT);
            hall.input(5);
            hall.test(i, 0);
        }
        return hall;
    }

    static int enterRight(RejudgeHall hall, int team, int problem) {
        echo(hall);
        return hall.enter(team, problem);
    }

    static int enterWrong(RejudgeHall hall, int team, int problem) {
        constant(hall, 99);
        return hall.enter(team, problem);
    }

    static void judgeAll(RejudgeHall hall) {
        for (int i = 0; i < 61 && hall.judge() != RejudgeHall.NONE; i++) {
            continue;
        }
    }
}
