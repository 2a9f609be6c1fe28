/** Promises 1 to 5: a new object, code, input, clear, run. */
public final class DeskTest {
    private static final int READ = RejudgeHall.READ, PUSH = RejudgeHall.PUSH, ADD = RejudgeHall.ADD,
        SUB = RejudgeHall.SUB, MUL = RejudgeHall.MUL, DUP = RejudgeHall.DUP, SWAP = RejudgeHall.SWAP,
        JZ = RejudgeHall.JZ, JUMP = RejudgeHall.JUMP, PRINT = RejudgeHall.PRINT;
    private static final int RIGHT = RejudgeHall.RIGHT, SLOW = RejudgeHall.SLOW,
        MEMORY = RejudgeHall.MEMORY, CRASHED = RejudgeHall.CRASHED;

    public static void main(String[] args) {
        newHall();
        codes();
        inputs();
        clears();
        runAnswers();
        instructions();
        crashes();
        memory();
        steps();
        firstFailure();
        Check.end();
    }

    private static void newHall() {
        RejudgeHall hall = new RejudgeHall();
        Check.fails("new: answer", Check.INDEX, () -> hall.answer(0, 0, 0));
        Check.fails("new: entry", Check.INDEX, () -> hall.entry(0, 0));
        Check.due("new: judge", -1, hall.judge());
        Check.due("new: clear", 0, hall.clear());
        Check.due("new: run", RIGHT, hall.run(1, 0));
        Check.due("new: run steps", 0, hall.run(1, 1));
        Check.due("new: reveal", -1, hall.reveal());
        for (int team = 0; team < 8; team++) {
            Check.due("new: place", team, hall.board(team, true, 0));
            Check.due("new: place anew", team, hall.placeAnew(team));
            for (int what = 1; what < 5; what++) {
                Check.due("new: board", 0, hall.board(team, false, what));
            }
        }
        Check.due("new: pass", 1, hall.pass(1));
        RejudgeHall other = new RejudgeHall();
        Check.due("another one has its own minute", 2, other.pass(2));
    }

    private static void codes() {
        RejudgeHall hall = new RejudgeHall();
        Check.fails("sort below", Check.ARGUMENT, () -> hall.code(-1, 0));
        Check.fails("sort above", Check.ARGUMENT, () -> hall.code(10, 0));
        Check.fails("number below", Check.ARGUMENT, () -> hall.code(ADD, -100));
        Check.fails("number above", Check.ARGUMENT, () -> hall.code(PUSH, 100));
        Check.fails("least", Check.ARGUMENT, () -> hall.code(Integer.MIN_VALUE, 0));
        Check.fails("most", Check.ARGUMENT, () -> hall.code(0, Integer.MAX_VALUE));
        Check.due("after faults", 1, hall.code(PUSH, -99));
        Check.due("second", 2, hall.code(PRINT, 99));
        Check.due("the number", -99, hall.run(9, 3));
        for (int i = 3; i <= 16; i++) {
            Check.due("code " + i, i, hall.code(READ, i));
        }
        Check.fails("17th", Check.STATE, () -> hall.code(READ, 0));
        Check.fails("17th, and out of range", Check.ARGUMENT, () -> hall.code(READ, 100));
        Check.due("still 16", 16, hall.clear());
    }

    private static void inputs() {
        RejudgeHall hall = new RejudgeHall();
        Check.fails("below", Check.ARGUMENT, () -> hall.input(-10));
        Check.fails("above", Check.ARGUMENT, () -> hall.input(10));
        Check.due("1", 1, hall.input(-9));
        Check.due("2", 2, hall.input(9));
        Check.due("3", 3, hall.input(1));
        Check.due("4", 4, hall.input(2));
        Check.fails("5th", Check.STATE, () -> hall.input(0));
        Check.fails("5th, and out of range", Check.ARGUMENT, () -> hall.input(10));
        Check.code(hall, READ, 0, PRINT, 0, READ, 0, PRINT, 0, READ, 0, PRINT, 0, READ, 0, PRINT, 0);
        Check.due("first", -9, hall.run(8, 3));
        Check.due("second", 9, hall.run(8, 4));
        Check.due("third", 1, hall.run(8, 5));
        Check.due("fourth", 2, hall.run(8, 6));
        Check.due("ends", RIGHT, hall.run(8, 0));
    }

    private static void clears() {
        RejudgeHall hall = new RejudgeHall();
        Check.code(hall, READ, 0, PRINT, 0, PUSH, 0);
        Check.input(hall, 1, 2);
        Check.due("clear", 3, hall.clear());
        Check.due("clear again", 0, hall.clear());
        Check.due("no program", 1, hall.code(READ, 0));
        Check.due("no input", CRASHED, hall.run(9, 0));
        Check.due("input anew", 1, hall.input(0));
    }

    private static void runAnswers() {
        RejudgeHall hall = new RejudgeHall();
        Check.fails("limit 0", Check.ARGUMENT, () -> hall.run(0, 0));
        Check.fails("limit 501", Check.ARGUMENT, () -> hall.run(501, 0));
        Check.fails("what -1", Check.ARGUMENT, () -> hall.run(1, -1));
        Check.fails("what 11", Check.ARGUMENT, () -> hall.run(1, 11));
        for (int i = 1; i <= 8; i++) {
            Check.code(hall, PUSH, i * 10, PRINT, 0);
        }
        Check.due("8 printed", RIGHT, hall.run(500, 0));
        Check.due("steps", 16, hall.run(500, 1));
        Check.due("output", 8, hall.run(500, 2));
        for (int k = 0; k < 8; k++) {
            Check.due("number " + k, (k + 1) * 10, hall.run(500, 3 + k));
        }
        Check.due("too slow", SLOW, hall.run(15, 0));
        Check.due("too slow, steps", 15, hall.run(15, 1));
        Check.due("too slow, output", 7, hall.run(15, 2));
        Check.due("too slow, a number", 70, hall.run(15, 9));
        Check.due("too slow, behind the last", 0, hall.run(15, 10));
        Check.due("one step", 1, hall.run(1, 1));
        Check.due("the program stays", 16, hall.clear());
    }

    private static void instructions() {
        Check.due("ADD", 2, first(PUSH, 5, PUSH, -3, ADD, 0, PRINT, 0));
        Check.due("SUB is lower less upper", 8, first(PUSH, 5, PUSH, -3, SUB, 0, PRINT, 0));
        Check.due("MUL", -15, first(PUSH, 5, PUSH, -3, MUL, 0, PRINT, 0));
        Check.due("DUP", 25, first(PUSH, 5, DUP, 0, MUL, 0, PRINT, 0));
        Check.due("SWAP", -8, first(PUSH, 5, PUSH, -3, SWAP, 0, SUB, 0, PRINT, 0));
        Check.due("JZ goes", 7, first(PUSH, 7, PUSH, 0, JZ, 4, PUSH, 8, PRINT, 0));
        Check.due("JZ stays", 8, first(PUSH, 7, PUSH, 1, JZ, 4, PUSH, 8, PRINT, 0));
        Check.due("JZ of below 0 stays", 8, first(PUSH, 7, PUSH, -1, JZ, 4, PUSH, 8, PRINT, 0));
        Check.due("JUMP", 7, first(PUSH, 7, JUMP, 3, PUSH, 8, PRINT, 0));
    }

    private static int first(int... pairs) {
        return told(3, 500, pairs);
    }

    private static int told(int what, int limit, int... pairs) {
        RejudgeHall hall = new RejudgeHall();
        Check.code(hall, pairs);
        return hall.run(limit, what);
    }

    private static void crashes() {
        for (int sort : new int[] {ADD, SUB, MUL, SWAP}) {
            Check.due("nothing there: " + sort, CRASHED, told(0, 9, sort, 0));
            Check.due("one there: " + sort, CRASHED, told(0, 9, PUSH, 1, sort, 0));
            Check.due("two there: " + sort, RIGHT, told(0, 9, PUSH, 1, PUSH, 1, sort, 0));
        }
        for (int sort : new int[] {DUP, JZ, PRINT}) {
            Check.due("nothing there: " + sort, CRASHED, told(0, 9, sort, 0));
            Check.due("its step counts: " + sort, 1, told(1, 9, sort, 0));
            Check.due("one there: " + sort, RIGHT, told(0, 9, PUSH, 1, sort, 0));
        }
        Check.due("no input", CRASHED, told(0, 9, READ, 0));
        Check.due("JUMP below", CRASHED, told(0, 9, JUMP, -1));
        Check.due("JUMP behind the last", RIGHT, told(0, 9, JUMP, 1));
        Check.due("JUMP further", CRASHED, told(0, 9, JUMP, 2));
        Check.due("JUMP further, steps", 1, told(1, 9, JUMP, 2));
        Check.due("JUMP further, at the limit", CRASHED, told(0, 1, JUMP, 2));
        Check.due("JZ behind the last", RIGHT, told(0, 9, PUSH, 0, JZ, 2));
        Check.due("JZ further", CRASHED, told(0, 9, PUSH, 0, JZ, 3));
        Check.due("JZ below", CRASHED, told(0, 9, PUSH, 0, JZ, -1));
        Check.due("JZ that stays may tell any number", RIGHT, told(0, 9, PUSH, 1, JZ, 99));
        madeNumbers();
    }

    /** What may be made ends at 999999 and -999999; 999 by 999 is 998001. */
    private static void madeNumbers() {
        int[] nine99 = {PUSH, 99, PUSH, 10, MUL, 0, PUSH, 9, ADD, 0};
        int[] square = Check.join(nine99, DUP, 0, MUL, 0);
        Check.due("998001", 998001, first(Check.join(square, PRINT, 0)));
        int[] edge = Check.join(square, PUSH, 99, PUSH, 20, MUL, 0, ADD, 0, PUSH, 18, ADD, 0);
        Check.due("999999 runs", RIGHT, told(0, 99, edge));
        Check.due("999999", 999999, firstAfter(edge));
        Check.due("1000000 crashes", CRASHED, told(0, 99, Check.join(edge, PUSH, 1, ADD, 0)));
        int[] low = Check.join(nine99, DUP, 0, PUSH, -1, MUL, 0, MUL, 0, PUSH, 99, PUSH, 20, MUL, 0, SUB, 0);
        Check.due("-999981", RIGHT, told(0, 99, low));
        Check.due("-999999 runs", RIGHT, told(0, 99, Check.join(low, PUSH, 18, SUB, 0)));
        Check.due("-1000000 crashes", CRASHED, told(0, 99, Check.join(low, PUSH, 19, SUB, 0)));
        Check.due("a product beyond int crashes", CRASHED, told(0, 99, Check.join(square, DUP, 0, MUL, 0)));
    }

    private static int firstAfter(int[] pairs) {
        return first(Check.join(pairs, PRINT, 0));
    }

    private static void memory() {
        int[] eight = new int[0];
        for (int i = 0; i < 8; i++) {
            eight = Check.join(eight, PUSH, i);
        }
        Check.due("8 on the stack", RIGHT, told(0, 99, eight));
        Check.due("9 by PUSH", MEMORY, told(0, 99, Check.join(eight, PUSH, 1)));
        Check.due("9 by PUSH, steps", 9, told(1, 99, Check.join(eight, PUSH, 1)));
        Check.due("9 by DUP", MEMORY, told(0, 99, Check.join(eight, DUP, 0)));
        Check.due("9 by READ, but no input", CRASHED, told(0, 99, Check.join(eight, READ, 0)));
        RejudgeHall hall = new RejudgeHall();
        Check.code(hall, Check.join(eight, READ, 0));
        hall.input(1);
        Check.due("9 by READ", MEMORY, hall.run(99, 0));
        Check.due("9th output", MEMORY, told(0, 99, PUSH, 3, PRINT, 0, JUMP, 0));
        Check.due("9th output, steps", 26, told(1, 99, PUSH, 3, PRINT, 0, JUMP, 0));
        Check.due("9th output, output", 8, told(2, 99, PUSH, 3, PRINT, 0, JUMP, 0));
        Check.due("9th output, the last", 3, told(10, 99, PUSH, 3, PRINT, 0, JUMP, 0));
        RejudgeHall full = new RejudgeHall();
        Check.code(full, PUSH, 3, DUP, 0, DUP, 0, DUP, 0, PRINT, 0, PRINT, 0, PRINT, 0, PRINT, 0);
        Check.code(full, READ, 0, JZ, 0, PRINT, 0);
        Check.input(full, 0, 1);
        Check.due("output full, and nothing to print", CRASHED, full.run(99, 0));
        Check.due("output full", 8, full.run(99, 2));
    }

    private static void steps() {
        Check.due("for ever", SLOW, told(0, 500, JUMP, 0));
        Check.due("for ever, steps", 500, told(1, 500, JUMP, 0));
        Check.due("ends at the limit", RIGHT, told(0, 2, PUSH, 1, PRINT, 0));
        Check.due("beyond the limit", SLOW, told(0, 1, PUSH, 1, PRINT, 0));
        Check.due("no instructions, no steps", RIGHT, told(0, 1));
        Check.due("no instructions, none done", 0, told(1, 1));
    }

    private static void firstFailure() {
        Check.due("a step beyond the limit is not looked at", SLOW, told(0, 1, PUSH, 1, ADD, 0));
        Check.due("and not counted", 1, told(1, 1, PUSH, 1, ADD, 0));
        Check.due("at the limit it is", CRASHED, told(0, 2, PUSH, 1, ADD, 0));
        Check.due("and counted", 2, told(1, 2, PUSH, 1, ADD, 0));
    }
}
