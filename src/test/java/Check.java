/** Counts the answers that are not due, and makes halls ready for the tests. */
final class Check {
    interface Call {
        void go();
    }

    static final Class<? extends RuntimeException> INDEX = IndexOutOfBoundsException.class;
    static final Class<? extends RuntimeException> ARGUMENT = IllegalArgumentException.class;
    static final Class<? extends RuntimeException> STATE = IllegalStateException.class;

    private static int wrong = 0;

    private Check() {
    }

    static void due(String call, long want, long got) {
        if (want != got) {
            wrong++;
            System.out.println(call + " answered " + got + ", due is " + want);
        }
    }

    static void due(String call, boolean want, boolean got) {
        due(call, want ? 1 : 0, got ? 1 : 0);
    }

    static void fails(String call, Class<? extends RuntimeException> want, Call made) {
        Class<?> got = null;
        try {
            made.go();
        } catch (RuntimeException e) {
            got = isOwn(e) ? e.getClass() : null;
        }
        if (got != want) {
            wrong++;
            System.out.println(call + " threw " + got + ", due is " + want);
        }
    }

    /** Whether the hall threw it itself, by a throw statement, and not a list or an array in it. */
    static boolean isOwn(RuntimeException thrown) {
        StackTraceElement[] trace = thrown.getStackTrace();
        Class<?> kind = thrown.getClass();
        boolean isDue = kind == INDEX || kind == ARGUMENT || kind == STATE;
        return isDue && trace.length > 0 && trace[0].getClassName().equals("RejudgeHall");
    }

    static void end() {
        if (wrong != 0) {
            System.out.println(wrong + " answers are not as due");
            System.exit(1);
        }
    }

    /** Puts a program to the desk, as pairs of sort and number. */
    static void code(RejudgeHall hall, int... pairs) {
        for (int i = 0; i < pairs.length; i += 2) {
            hall.code(pairs[i], pairs[i + 1]);
        }
    }

    static void input(RejudgeHall hall, int... numbers) {
        for (int number : numbers) {
            hall.input(number);
        }
    }

    /** A program that prints the first number of its input. */
    static void echo(RejudgeHall hall) {
        code(hall, RejudgeHall.READ, 0, RejudgeHall.PRINT, 0);
    }

    /** A program that prints one number, whatever its input. */
    static void constant(RejudgeHall hall, int number) {
        code(hall, RejudgeHall.PUSH, number, RejudgeHall.PRINT, 0);
    }

    /** A hall with problems that echo; each has one test, of the group 0, with the input 5. */
    static RejudgeHall echoHall(int problems) {
        RejudgeHall hall = new RejudgeHall();
        for (int i = 0; i < problems; i++) {
            echo(hall);
            hall.problem(10, RejudgeHall.EXACT);
            hall.input(5);
            hall.test(i, 0);
        }
        return hall;
    }

    static int enterRight(RejudgeHall hall, int team, int problem) {
        echo(hall);
        return hall.enter(team, problem);
    }

    static int enterWrong(RejudgeHall hall, int team, int problem) {
        constant(hall, 99);
        return hall.enter(team, problem);
    }

    static void judgeAll(RejudgeHall hall) {
        for (int i = 0; i < 61 && hall.judge() != RejudgeHall.NONE; i++) {
            continue;
        }
    }
}
