/** Promises 11 to 16: enter, pass, judge, rejudge, entry, likeness. */
public final class EntryTest {
    private static final int READ = RejudgeHall.READ, PUSH = RejudgeHall.PUSH, ADD = RejudgeHall.ADD,
        SUB = RejudgeHall.SUB, JUMP = RejudgeHall.JUMP, JZ = RejudgeHall.JZ, DUP = RejudgeHall.DUP,
        MUL = RejudgeHall.MUL, PRINT = RejudgeHall.PRINT;
    private static final int EXACT = RejudgeHall.EXACT, NEAR = RejudgeHall.NEAR, NONE = RejudgeHall.NONE;
    private static final int RIGHT = RejudgeHall.RIGHT, WRONG = RejudgeHall.WRONG, SLOW = RejudgeHall.SLOW,
        MEMORY = RejudgeHall.MEMORY, CRASHED = RejudgeHall.CRASHED, SILENT = RejudgeHall.SILENT;

    public static void main(String[] args) {
        enters();
        passes();
        verdicts();
        nearVerdicts();
        firstByNumbers();
        scores();
        fairness();
        rejudges();
        tells();
        likeness();
        Check.end();
    }

    private static void enters() {
        RejudgeHall hall = Check.echoHall(1);
        Check.echo(hall);
        hall.input(7);
        Check.fails("team -1", Check.INDEX, () -> hall.enter(-1, 0));
        Check.fails("team 8", Check.INDEX, () -> hall.enter(8, 0));
        Check.fails("problem -1", Check.INDEX, () -> hall.enter(0, -1));
        Check.fails("problem 1", Check.INDEX, () -> hall.enter(0, 1));
        Check.due("first", 0, hall.enter(7, 0));
        Check.due("the input stays", 2, hall.input(7));
        Check.due("the program is taken", 0, hall.clear());
        for (int i = 1; i < 60; i++) {
            Check.due("entry " + i, i, hall.enter(0, 0));
        }
        hall.code(READ, 0);
        Check.fails("61st", Check.STATE, () -> hall.enter(0, 0));
        Check.fails("61st, and no team", Check.INDEX, () -> hall.enter(8, 0));
        Check.due("the desk stays", 1, hall.clear());
        Check.due("entered without instructions", 100, hall.likeness(58, 59));
    }

    private static void passes() {
        RejudgeHall hall = new RejudgeHall();
        Check.fails("0", Check.ARGUMENT, () -> hall.pass(0));
        Check.fails("301", Check.ARGUMENT, () -> hall.pass(301));
        Check.fails("below", Check.ARGUMENT, () -> hall.pass(Integer.MIN_VALUE));
        Check.due("1", 1, hall.pass(1));
        for (int i = 1; i <= 33; i++) {
            Check.due("300", 1 + 300 * i, hall.pass(300));
        }
        Check.fails("10000", Check.STATE, () -> hall.pass(99));
        Check.fails("beyond, and out of range", Check.ARGUMENT, () -> hall.pass(301));
        Check.due("9999", 9999, hall.pass(98));
        Check.fails("one more", Check.STATE, () -> hall.pass(1));
    }

    private static int verdict(RejudgeHall hall, int problem, int... pairs) {
        Check.code(hall, pairs);
        int entry = hall.enter(0, problem);
        Check.due("judged", entry, hall.judge());
        return hall.entry(entry, 0);
    }

    private static void verdicts() {
        RejudgeHall hall = Check.echoHall(1);
        Check.due("RIGHT", RIGHT, verdict(hall, 0, READ, 0, PRINT, 0));
        Check.due("RIGHT otherwise", RIGHT, verdict(hall, 0, PUSH, 5, PRINT, 0));
        Check.due("WRONG", WRONG, verdict(hall, 0, PUSH, 6, PRINT, 0));
        Check.due("WRONG, one more", WRONG, verdict(hall, 0, PUSH, 5, PRINT, 0, PUSH, 0, PRINT, 0));
        Check.due("SILENT", SILENT, verdict(hall, 0));
        Check.due("SLOW", SLOW, verdict(hall, 0, READ, 0, PRINT, 0, JUMP, 2));
        Check.due("SLOW ahead of MEMORY", SLOW, verdict(hall, 0, PUSH, 5, JUMP, 0));
        Check.due("MEMORY", MEMORY, verdict(hall, 0,
            PUSH, 1, DUP, 0, DUP, 0, DUP, 0, DUP, 0, DUP, 0, DUP, 0, DUP, 0, DUP, 0));
        Check.due("CRASHED", CRASHED, verdict(hall, 0, READ, 0, PRINT, 0, READ, 0));
        hall.clear();
        hall.problem(2, EXACT);
        Check.due("no tests at all", RIGHT, verdict(hall, 1, READ, 0));
        Check.due("and no score", 0, hall.entry(8, 2));
        hall.test(1, 0);
        Check.due("an empty answer, passed", RIGHT, verdict(hall, 1));
        Check.due("an empty answer, output", WRONG, verdict(hall, 1, PUSH, 0, PRINT, 0));
        Check.due("its limit", SLOW, verdict(hall, 1, PUSH, 0, PUSH, 0, PUSH, 0));
        Check.due("by its limit", RIGHT, verdict(hall, 1, PUSH, 0, PUSH, 0));
    }

    private static void nearVerdicts() {
        RejudgeHall hall = new RejudgeHall();
        Check.code(hall, READ, 0, PRINT, 0, READ, 0, PRINT, 0);
        hall.problem(20, NEAR);
        Check.input(hall, 0, 5);
        hall.test(0, 0);
        Check.due("the same", RIGHT, verdict(hall, 0, PUSH, 0, PRINT, 0, PUSH, 5, PRINT, 0));
        Check.due("1 off, both ways", RIGHT, verdict(hall, 0, PUSH, -1, PRINT, 0, PUSH, 6, PRINT, 0));
        Check.due("1 off, the other ways", RIGHT, verdict(hall, 0, PUSH, 1, PRINT, 0, PUSH, 4, PRINT, 0));
        Check.due("2 above", WRONG, verdict(hall, 0, PUSH, 0, PRINT, 0, PUSH, 7, PRINT, 0));
        Check.due("2 below", WRONG, verdict(hall, 0, PUSH, -2, PRINT, 0, PUSH, 5, PRINT, 0));
        Check.due("too few", WRONG, verdict(hall, 0, PUSH, 0, PRINT, 0));
        Check.due("too many", WRONG, verdict(hall, 0, PUSH, 0, PRINT, 0, PUSH, 5, PRINT, 0, PUSH, 0, PRINT, 0));
        Check.due("none", SILENT, verdict(hall, 0, PUSH, 0));
    }

    /** Three tests, of the groups 2, 0 and 2, with the inputs 1, 2 and 3. */
    private static RejudgeHall groupHall() {
        RejudgeHall hall = new RejudgeHall();
        Check.echo(hall);
        hall.problem(10, EXACT);
        hall.input(1);
        hall.test(0, 2);
        hall.input(2);
        hall.test(0, 0);
        hall.input(3);
        hall.test(0, 2);
        return hall;
    }

    private static void firstByNumbers() {
        RejudgeHall hall = groupHall();
        Check.due("fails the second by JZ", CRASHED,
            verdict(hall, 0, READ, 0, DUP, 0, PUSH, -2, ADD, 0, JZ, 6, PRINT, 0, ADD, 0));
        Check.due("all fail: it crashes behind its output", 0, hall.entry(0, 1));
        Check.due("2 alone is wrong", WRONG, verdict(hall, 0, PUSH, 2, PRINT, 0));
        Check.due("its test", 0, hall.entry(1, 1));
        Check.due("1 alone", WRONG, verdict(hall, 0, PUSH, 1, PRINT, 0));
        Check.due("its first failure", 1, hall.entry(2, 1));
        Check.due("right", RIGHT, verdict(hall, 0, READ, 0, PRINT, 0));
        Check.due("no test failed", NONE, hall.entry(3, 1));
        Check.due("1 is right, then silent, then wrong", SILENT,
            verdict(hall, 0, READ, 0, PUSH, -2, ADD, 0, DUP, 0, JZ, 7, PUSH, 1, PRINT, 0));
        Check.due("the second", 1, hall.entry(4, 1));
    }

    private static void scores() {
        RejudgeHall hall = groupHall();
        hall.points(0, 0, 10);
        hall.points(0, 1, 40);
        hall.points(0, 2, 7);
        verdict(hall, 0, READ, 0, PRINT, 0);
        Check.due("all groups that have a test", 17, hall.entry(0, 2));
        verdict(hall, 0, PUSH, 2, PRINT, 0);
        Check.due("the group 0 alone", 10, hall.entry(1, 2));
        verdict(hall, 0, PUSH, 1, PRINT, 0);
        Check.due("not all of the group 2", 0, hall.entry(2, 2));
        verdict(hall, 0, PUSH, 3, PRINT, 0);
        Check.due("nor by its last", 0, hall.entry(3, 2));
        verdict(hall, 0, READ, 0, DUP, 0, PUSH, 2, SUB, 0, JZ, 6, PRINT, 0);
        Check.due("the group 2 alone", 7, hall.entry(4, 2));
        Check.due("fails the group 0", SILENT, hall.entry(4, 0));
    }

    private static void fairness() {
        RejudgeHall hall = Check.echoHall(2);
        int[] teams = {3, 3, 3, 1, 1, 5};
        for (int team : teams) {
            Check.enterRight(hall, team, 0);
        }
        int[] order = {0, 3, 5, 1, 4, 2};
        for (int entry : order) {
            Check.due("order", entry, hall.judge());
        }
        Check.due("none waits", NONE, hall.judge());
        Check.enterRight(hall, 3, 0);
        Check.enterRight(hall, 1, 0);
        Check.enterRight(hall, 5, 1);
        Check.due("one of team 5 was judged", 8, hall.judge());
        Check.due("two of team 1", 7, hall.judge());
        Check.due("three of team 3", 6, hall.judge());
        hall.mend(1, EXACT);
        hall.rejudge(1);
        hall.judge();
        Check.enterRight(hall, 1, 0);
        Check.enterRight(hall, 5, 0);
        Check.enterRight(hall, 2, 0);
        Check.due("none of team 2", 11, hall.judge());
        Check.due("each time counts: three of both", 9, hall.judge());
        Check.due("then", 10, hall.judge());
    }

    private static void rejudges() {
        RejudgeHall hall = Check.echoHall(2);
        Check.enterRight(hall, 0, 0);
        Check.enterRight(hall, 1, 1);
        Check.enterWrong(hall, 2, 0);
        Check.fails("problem 2", Check.INDEX, () -> hall.rejudge(2));
        Check.fails("problem -1", Check.INDEX, () -> hall.rejudge(-1));
        hall.judge();
        hall.judge();
        Check.due("the version of now", 0, hall.rejudge(0));
        hall.mend(0, EXACT);
        Check.due("that one alone: another waits already, or is of another problem", 1, hall.rejudge(0));
        Check.due("it waits already", 0, hall.rejudge(0));
        Check.due("verdict", NONE, hall.entry(0, 0));
        Check.due("score", 0, hall.entry(0, 2));
        Check.due("version", NONE, hall.entry(0, 3));
        Check.due("the other problem's stays", RIGHT, hall.entry(1, 0));
        Check.due("no place for it", 1, hall.board(0, false, 0));
        Check.judgeAll(hall);
        Check.due("judged by the version 2", 2, hall.entry(0, 3));
        hall.input(1);
        hall.test(0, 0);
        Check.due("another test is another version", 2, hall.rejudge(0));
        Check.due("failed test, as it waits", NONE, hall.entry(2, 1));
        Check.judgeAll(hall);
        Check.due("judged by the version 3", 3, hall.entry(2, 3));
        Check.due("failed test", 0, hall.entry(2, 1));
    }

    private static void tells() {
        RejudgeHall hall = Check.echoHall(2);
        Check.fails("no entry", Check.INDEX, () -> hall.entry(0, 0));
        hall.pass(12);
        int entry = Check.enterWrong(hall, 6, 1);
        hall.pass(3);
        Check.fails("entry -1", Check.INDEX, () -> hall.entry(-1, 0));
        Check.fails("entry 1, and out of range", Check.INDEX, () -> hall.entry(1, 7));
        Check.fails("what -1", Check.ARGUMENT, () -> hall.entry(0, -1));
        Check.fails("what 7", Check.ARGUMENT, () -> hall.entry(0, 7));
        int[] waiting = {NONE, NONE, 0, NONE, 6, 1, 12};
        int[] judged = {WRONG, 0, 0, 1, 6, 1, 12};
        for (int what = 0; what < 7; what++) {
            Check.due("waiting " + what, waiting[what], hall.entry(entry, what));
        }
        hall.judge();
        for (int what = 0; what < 7; what++) {
            Check.due("judged " + what, judged[what], hall.entry(entry, what));
        }
    }

    private static int likeness(int[] one, int[] two) {
        RejudgeHall hall = new RejudgeHall();
        hall.problem(1, EXACT);
        Check.code(hall, one);
        hall.enter(0, 0);
        Check.code(hall, two);
        hall.enter(1, 0);
        int there = hall.likeness(0, 1);
        Check.due("the same both ways", there, hall.likeness(1, 0));
        Check.due("itself", 100, hall.likeness(0, 0));
        return there;
    }

    private static void likeness() {
        int[] none = {};
        int[] abc = {READ, 0, ADD, 0, PRINT, 0};
        Check.due("both empty", 100, likeness(none, none));
        Check.due("one empty", 0, likeness(none, abc));
        Check.due("numbers do not matter", 100, likeness(abc, new int[] {READ, 1, ADD, 2, PRINT, 3}));
        Check.due("but of JUMP", 50, likeness(new int[] {JUMP, 1, READ, 0}, new int[] {JUMP, 2, READ, 0}));
        Check.due("and of JZ", 50, likeness(new int[] {JZ, 1, READ, 0}, new int[] {JZ, 2, READ, 0}));
        Check.due("JZ and JUMP of the same", 100, likeness(new int[] {JZ, 1, JUMP, 5}, new int[] {JZ, 1, JUMP, 5}));
        Check.due("JZ is not JUMP", 0, likeness(new int[] {JZ, 1}, new int[] {JUMP, 1}));
        Check.due("others between", 50, likeness(abc, new int[] {DUP, 0, READ, 0, DUP, 0, ADD, 0, DUP, 0, PRINT, 0}));
        Check.due("in order", 33, likeness(abc, new int[] {PRINT, 0, ADD, 0, READ, 0}));
        Check.due("rounded down", 66, likeness(abc, new int[] {READ, 0, MUL, 0, PRINT, 0}));
        Check.due("the longest, not the first", 75,
            likeness(new int[] {ADD, 0, SUB, 0, MUL, 0, DUP, 0}, new int[] {DUP, 0, ADD, 0, SUB, 0, MUL, 0}));
        int[] sixteen = new int[32];
        int[] other = new int[32];
        for (int i = 0; i < 32; i += 2) {
            sixteen[i] = i % 3 == 0 ? ADD : SUB;
            other[i] = i == 30 ? DUP : sixteen[i];
        }
        Check.due("16 of 16", 100, likeness(sixteen, sixteen.clone()));
        Check.due("15 of 16", 93, likeness(sixteen, other));
        RejudgeHall hall = Check.echoHall(1);
        Check.enterRight(hall, 0, 0);
        Check.fails("entry 1", Check.INDEX, () -> hall.likeness(1, 0));
        Check.fails("other 1", Check.INDEX, () -> hall.likeness(0, 1));
        Check.fails("entry -1", Check.INDEX, () -> hall.likeness(-1, 0));
        Check.fails("other -1", Check.INDEX, () -> hall.likeness(0, -1));
    }
}
