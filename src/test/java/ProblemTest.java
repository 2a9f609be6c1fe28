/** Promises 6 to 10: problem, test, points, mend, answer. */
public final class ProblemTest {
    private static final int READ = RejudgeHall.READ, PUSH = RejudgeHall.PUSH, ADD = RejudgeHall.ADD,
        MUL = RejudgeHall.MUL, JUMP = RejudgeHall.JUMP, JZ = RejudgeHall.JZ, DUP = RejudgeHall.DUP,
        SUB = RejudgeHall.SUB, PRINT = RejudgeHall.PRINT;
    private static final int EXACT = RejudgeHall.EXACT, NEAR = RejudgeHall.NEAR;

    public static void main(String[] args) {
        problems();
        tests();
        answerIsWithin500();
        groupPoints();
        mends();
        mendKeepsDesk();
        answers();
        Check.end();
    }

    private static void problems() {
        RejudgeHall hall = new RejudgeHall();
        Check.fails("limit 0", Check.ARGUMENT, () -> hall.problem(0, EXACT));
        Check.fails("limit 501", Check.ARGUMENT, () -> hall.problem(501, EXACT));
        Check.fails("checker below", Check.ARGUMENT, () -> hall.problem(1, -1));
        Check.fails("checker above", Check.ARGUMENT, () -> hall.problem(1, 2));
        Check.code(hall, READ, 0);
        hall.input(3);
        Check.due("first", 0, hall.problem(1, EXACT));
        Check.due("the program is taken, the input not", 2, hall.input(4));
        Check.due("the program is taken", 0, hall.clear());
        for (int i = 1; i < 6; i++) {
            Check.due("problem " + i, i, hall.problem(500, NEAR));
        }
        hall.code(READ, 0);
        Check.fails("7th", Check.STATE, () -> hall.problem(1, EXACT));
        Check.fails("7th, and out of range", Check.ARGUMENT, () -> hall.problem(1, 2));
        Check.due("the program stays", 1, hall.clear());
    }

    private static void tests() {
        RejudgeHall hall = new RejudgeHall();
        Check.fails("no problem", Check.INDEX, () -> hall.test(0, 0));
        Check.echo(hall);
        hall.problem(1, EXACT);
        Check.fails("no answer", Check.STATE, () -> hall.test(0, 0));
        hall.input(4);
        Check.fails("problem -1", Check.INDEX, () -> hall.test(-1, 0));
        Check.fails("problem 1", Check.INDEX, () -> hall.test(1, 0));
        Check.fails("group -1", Check.INDEX, () -> hall.test(0, -1));
        Check.fails("group 4", Check.INDEX, () -> hall.test(0, 4));
        hall.code(PUSH, 1);
        Check.due("the answer may need more steps than the limit", 0, hall.test(0, 3));
        Check.due("the input is taken, the program not", 1, hall.clear());
        Check.due("the input is taken", 1, hall.input(0));
        for (int i = 1; i < 12; i++) {
            Check.due("test " + i, i, hall.test(0, i % 4));
            hall.input(1);
        }
        Check.fails("13th", Check.STATE, () -> hall.test(0, 0));
        Check.fails("13th, and no group", Check.INDEX, () -> hall.test(0, 4));
        Check.due("the input stays", 2, hall.input(1));
        Check.due("12 tests are 12 versions", 13, hall.mend(0, EXACT));
    }

    /** The solution counts down from 99, five steps a round, and more behind it. */
    private static void answerIsWithin500() {
        RejudgeHall hall = new RejudgeHall();
        Check.code(hall, PUSH, 99, PUSH, 1, SUB, 0, DUP, 0, JZ, 6, JUMP, 1);
        int steps = hall.run(500, 1);
        Check.due("steps of the solution", 495, steps);
        Check.code(hall, JUMP, 7, JUMP, 8, JUMP, 9, JUMP, 10, JUMP, 11);
        Check.due("500 steps", 500, hall.run(500, 1));
        Check.due("500 steps end", RejudgeHall.RIGHT, hall.run(500, 0));
        hall.problem(1, EXACT);
        Check.due("an answer by 500", 0, hall.test(0, 0));
        Check.code(hall, PUSH, 99, PUSH, 1, SUB, 0, DUP, 0, JZ, 6, JUMP, 1);
        Check.code(hall, JUMP, 7, JUMP, 8, JUMP, 9, JUMP, 10, JUMP, 11, JUMP, 12);
        hall.problem(500, EXACT);
        Check.fails("none by 501", Check.STATE, () -> hall.test(1, 0));
    }

    private static void groupPoints() {
        RejudgeHall hall = Check.echoHall(1);
        Check.fails("problem 1", Check.INDEX, () -> hall.points(1, 0, 0));
        Check.fails("problem -1, all wrong", Check.INDEX, () -> hall.points(-1, 9, 999));
        Check.fails("group 4", Check.INDEX, () -> hall.points(0, 4, 101));
        Check.fails("group -1", Check.INDEX, () -> hall.points(0, -1, 0));
        Check.fails("below", Check.ARGUMENT, () -> hall.points(0, 0, -1));
        Check.fails("above", Check.ARGUMENT, () -> hall.points(0, 0, 101));
        for (int group = 0; group < 4; group++) {
            Check.due("at first", 25, hall.points(0, group, group));
        }
        Check.due("then", 3, hall.points(0, 3, 100));
        Check.due("then most", 100, hall.points(0, 3, 0));
        Check.due("the other groups stay", 1, hall.points(0, 1, 7));
        int before = Check.enterRight(hall, 0, 0);
        hall.judge();
        Check.due("score by 0", 0, hall.entry(before, 2));
        hall.points(0, 0, 70);
        int after = Check.enterRight(hall, 1, 0);
        hall.judge();
        Check.due("what was judged stays", 0, hall.entry(before, 2));
        Check.due("what is judged from now on", 70, hall.entry(after, 2));
        Check.due("no new version", 0, hall.rejudge(0));
    }

    private static void mends() {
        RejudgeHall hall = Check.echoHall(1);
        Check.fails("problem 1", Check.INDEX, () -> hall.mend(1, 5));
        Check.fails("checker below", Check.ARGUMENT, () -> hall.mend(0, -1));
        Check.fails("checker above", Check.ARGUMENT, () -> hall.mend(0, 2));
        Check.due("nothing new is a version too", 2, hall.mend(0, EXACT));
        Check.due("the solution stayed", 5, hall.answer(0, 0, 0));
        Check.constant(hall, 6);
        hall.input(1);
        Check.due("another solution", 3, hall.mend(0, NEAR));
        Check.due("another answer", 6, hall.answer(0, 0, 0));
        Check.due("the program is taken, the input not", 2, hall.input(1));
        Check.due("the program is taken", 0, hall.clear());
        int near = Check.enterRight(hall, 0, 0);
        hall.judge();
        Check.due("5 is near 6", RejudgeHall.RIGHT, hall.entry(near, 0));
        Check.due("exact again", 4, hall.mend(0, EXACT));
        Check.due("it waits", 1, hall.rejudge(0));
        hall.judge();
        Check.due("5 is not 6", RejudgeHall.WRONG, hall.entry(near, 0));
    }

    private static void mendKeepsDesk() {
        RejudgeHall hall = Check.echoHall(1);
        Check.input(hall, 1, 2);
        hall.test(0, 1);
        Check.code(hall, READ, 0, READ, 0, PRINT, 0);
        hall.input(3);
        Check.fails("the first test would have no answer", Check.STATE, () -> hall.mend(0, NEAR));
        Check.fails("no answer, and out of range", Check.ARGUMENT, () -> hall.mend(0, 2));
        Check.due("the answer stays", 5, hall.answer(0, 0, 0));
        Check.due("the second too", 1, hall.answer(0, 1, 0));
        Check.due("the desk stays", 3, hall.clear());
        Check.due("the version stayed", 3, hall.mend(0, EXACT));
        Check.code(hall, READ, 0, PUSH, 99, MUL, 0, PRINT, 0, PUSH, 2, PRINT, 0);
        Check.due("all have answers", 4, hall.mend(0, EXACT));
        Check.due("first", 495, hall.answer(0, 0, 0));
        Check.due("second", 99, hall.answer(0, 1, 0));
        Check.due("its next number", 2, hall.answer(0, 1, 1));
        Check.input(hall, 2);
        Check.due("new tests are answered by it", 2, hall.test(0, 0));
        Check.due("so", 198, hall.answer(0, 2, 0));
    }

    private static void answers() {
        RejudgeHall hall = new RejudgeHall();
        Check.code(hall, READ, 0, DUP, 0, PRINT, 0, READ, 0, ADD, 0, PRINT, 0);
        hall.problem(9, EXACT);
        Check.fails("no test", Check.INDEX, () -> hall.answer(0, 0, 0));
        Check.input(hall, 3, -8);
        hall.test(0, 2);
        Check.due("first", 3, hall.answer(0, 0, 0));
        Check.due("second", -5, hall.answer(0, 0, 1));
        Check.due("behind the last", 0, hall.answer(0, 0, 2));
        Check.due("far behind", 0, hall.answer(0, 0, Integer.MAX_VALUE));
        Check.fails("place -1", Check.INDEX, () -> hall.answer(0, 0, -1));
        Check.fails("test 1", Check.INDEX, () -> hall.answer(0, 1, 0));
        Check.fails("test -1", Check.INDEX, () -> hall.answer(0, -1, 0));
        Check.fails("problem 1", Check.INDEX, () -> hall.answer(1, 0, 0));
        Check.fails("problem -1", Check.INDEX, () -> hall.answer(-1, 0, 0));
        Check.input(hall, 1);
        hall.clear();
        Check.due("the answer does not hang on the desk", 3, hall.answer(0, 0, 0));
    }
}
