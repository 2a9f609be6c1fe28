/** Promise 21: hack. */
public final class HackTest {
    private static final int READ = RejudgeHall.READ, PRINT = RejudgeHall.PRINT;
    private static final int EXACT = RejudgeHall.EXACT, NEAR = RejudgeHall.NEAR, NONE = RejudgeHall.NONE;
    private static final int RIGHT = RejudgeHall.RIGHT, WRONG = RejudgeHall.WRONG;

    public static void main(String[] args) {
        wrongArguments();
        wrongStates();
        succeeds();
        failsToHack();
        judgedByNow();
        countsAsJudging();
        twelveTests();
        solvedIsWithoutFreezing();
        Check.end();
    }

    /** Entry 0 of team 0 is right, entry 1 of team 1 prints 5 always. */
    static RejudgeHall hackHall() {
        RejudgeHall hall = Check.echoHall(2);
        Check.enterRight(hall, 0, 0);
        Check.constant(hall, 5);
        hall.enter(1, 0);
        Check.judgeAll(hall);
        return hall;
    }

    private static void wrongArguments() {
        RejudgeHall hall = hackHall();
        hall.input(3);
        Check.fails("team -1", Check.INDEX, () -> hall.hack(-1, 1));
        Check.fails("team 8", Check.INDEX, () -> hall.hack(8, 1));
        Check.fails("entry -1", Check.INDEX, () -> hall.hack(0, -1));
        Check.fails("entry 2", Check.INDEX, () -> hall.hack(0, 2));
        Check.due("the input stays", 2, hall.input(3));
    }

    private static void wrongStates() {
        RejudgeHall hall = hackHall();
        hall.input(3);
        Check.fails("not solved", Check.STATE, () -> hall.hack(2, 1));
        Check.fails("its own", Check.STATE, () -> hall.hack(1, 1));
        Check.enterRight(hall, 3, 1);
        Check.enterWrong(hall, 4, 0);
        Check.judgeAll(hall);
        Check.fails("another problem solved", Check.STATE, () -> hall.hack(3, 1));
        Check.fails("not RIGHT", Check.STATE, () -> hall.hack(0, 3));
        Check.enterRight(hall, 5, 0);
        Check.fails("it waits", Check.STATE, () -> hall.hack(0, 4));
        Check.fails("the own one waits", Check.STATE, () -> hall.hack(5, 1));
        Check.due("the input stays", 2, hall.input(3));
        hall.clear();
        Check.fails("no answer", Check.STATE, () -> hall.hack(0, 1));
        Check.due("no hacks by that", 0, hall.board(0, false, 4));
    }

    private static void succeeds() {
        RejudgeHall hall = hackHall();
        Check.due("solved so far", 1, hall.board(1, false, 1));
        hall.points(0, 3, 60);
        hall.code(READ, 0);
        hall.input(3);
        Check.due("succeeds", true, hall.hack(0, 1));
        Check.due("the input is taken", 1, hall.input(7));
        Check.due("the program is not", 1, hall.clear());
        Check.due("a hack", 1, hall.board(0, false, 4));
        Check.due("a hack, on the frozen one too", 1, hall.board(0, true, 4));
        Check.due("it is a test", 3, hall.answer(0, 1, 0));
        Check.due("judged at once", WRONG, hall.entry(1, 0));
        Check.due("by that test", 1, hall.entry(1, 1));
        Check.due("by the version of now", 2, hall.entry(1, 3));
        Check.due("its score", 25, hall.entry(1, 2));
        Check.due("solved no more", 0, hall.board(1, false, 1));
        Check.due("its own is as it was", 1, hall.entry(0, 3));
        Check.due("its own can be judged again", 1, hall.rejudge(0));
        hall.judge();
        Check.due("of the group 3", 85, hall.entry(0, 2));
    }

    private static void failsToHack() {
        RejudgeHall hall = hackHall();
        hall.input(5);
        Check.due("5 is passed", false, hall.hack(0, 1));
        Check.due("the input is taken", 1, hall.input(5));
        Check.due("one less", -1, hall.board(0, false, 4));
        Check.fails("no test of it", Check.INDEX, () -> hall.answer(0, 1, 0));
        Check.due("right still", RIGHT, hall.entry(1, 0));
        Check.due("no version of it", 0, hall.rejudge(0));
        Check.due("once more", false, hall.hack(0, 1));
        Check.due("two less", -2, hall.board(0, false, 4));
        hall.input(4);
        hall.mend(0, NEAR);
        Check.due("by its checker", false, hall.hack(0, 1));
        Check.due("three less", -3, hall.board(0, false, 4));
        hall.input(3);
        Check.due("succeeds", true, hall.hack(0, 1));
        Check.due("one more", -2, hall.board(0, false, 4));
        Check.due("team 1 has none", 0, hall.board(1, false, 4));
    }

    /** The problem is mended ahead of the hack, so that the first test fails too. */
    private static void judgedByNow() {
        RejudgeHall hall = hackHall();
        Check.code(hall, READ, 0, PRINT, 0, RejudgeHall.PUSH, 1, PRINT, 0);
        hall.mend(0, EXACT);
        hall.input(5);
        Check.due("succeeds", true, hall.hack(0, 1));
        Check.due("the first failure by numbers", 0, hall.entry(1, 1));
        Check.due("by the version of now", 3, hall.entry(1, 3));
        Check.due("no score", 0, hall.entry(1, 2));
    }

    private static void countsAsJudging() {
        RejudgeHall hall = hackHall();
        hall.input(5);
        hall.hack(0, 1);
        Check.enterRight(hall, 1, 1);
        Check.enterRight(hall, 0, 1);
        Check.due("one of both: a hack in vain judges nothing", 2, hall.judge());
        Check.due("team 0", 3, hall.judge());
        hall.input(3);
        hall.hack(0, 1);
        Check.enterRight(hall, 1, 1);
        Check.enterRight(hall, 0, 1);
        Check.due("three of team 1, two of team 0", 5, hall.judge());
        Check.due("three of both", 4, hall.judge());
    }

    private static void twelveTests() {
        RejudgeHall hall = hackHall();
        for (int i = 1; i < 11; i++) {
            hall.input(5);
            hall.test(0, 0);
        }
        hall.input(3);
        Check.due("the 12th", true, hall.hack(0, 1));
        Check.constant(hall, 5);
        hall.enter(2, 0);
        hall.judge();
        Check.enterRight(hall, 3, 0);
        hall.judge();
        hall.input(3);
        Check.fails("not RIGHT", Check.STATE, () -> hall.hack(0, 2));
        Check.fails("12 tests", Check.STATE, () -> hall.hack(0, 3));
        Check.due("the input stays", 2, hall.input(3));
        Check.due("hacks", 1, hall.board(0, false, 4));
    }

    private static void solvedIsWithoutFreezing() {
        RejudgeHall hall = hackHall();
        hall.freeze(0);
        hall.input(3);
        Check.due("solved, for all the frozen board", true, hall.hack(0, 1));
        Check.due("hacks", 1, hall.board(0, true, 4));
        Check.due("not on the frozen one", 0, hall.board(0, true, 1));
    }
}
