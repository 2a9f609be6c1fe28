/** The boundary cases of promise 21 and of "Hacks", a method for each sentence. */
public final class HackEdgeTest {
    private static final int READ = RejudgeHall.READ, PUSH = RejudgeHall.PUSH, SUB = RejudgeHall.SUB,
        DUP = RejudgeHall.DUP, JZ = RejudgeHall.JZ, JUMP = RejudgeHall.JUMP, PRINT = RejudgeHall.PRINT;
    private static final int EXACT = RejudgeHall.EXACT, NEAR = RejudgeHall.NEAR, NONE = RejudgeHall.NONE;
    private static final int RIGHT = RejudgeHall.RIGHT, WRONG = RejudgeHall.WRONG, SLOW = RejudgeHall.SLOW,
        MEMORY = RejudgeHall.MEMORY, CRASHED = RejudgeHall.CRASHED, SILENT = RejudgeHall.SILENT;

    public static void main(String[] args) {
        teamThatSolvedTheProblem();
        withoutFreezing();
        rightEntryOfAnotherTeam();
        solutionHasAnAnswer();
        problemHas12Tests();
        severalStatesAtOnce();
        doesNotPassThatAsATest();
        byTheCheckerOfNow();
        byTheLimit();
        testOfTheGroup3();
        judgedAtOnceByNow();
        oneHackMoreOrLess();
        theInputIsTakenEitherWay();
        inVainNothingElse();
        fairnessByHacksToo();
        inputsOfAHack();
        Check.end();
    }

    /** Entry 0 of team 0 is right, entry 1 of team 1 prints 5 always; the input 3 is on the desk. */
    private static RejudgeHall hackHall() {
        RejudgeHall hall = HackTest.hackHall();
        hall.input(3);
        return hall;
    }

    private static void refused(String name, Twins.Maker maker, int team, int entry) {
        Twins.refused(name, Check.STATE, maker, hall -> hall.hack(team, entry));
    }

    /** "A team that solved a problem ... may hack" */
    private static void teamThatSolvedTheProblem() {
        for (int team = 2; team < 8; team++) {
            refused("team " + team + " has no entry", HackEdgeTest::hackHall, team, 1);
        }
        refused("solved another problem", () -> {
            RejudgeHall hall = hackHall();
            Check.enterRight(hall, 2, 1);
            Check.judgeAll(hall);
            return hall;
        }, 2, 1);
        refused("a wrong entry", () -> {
            RejudgeHall hall = hackHall();
            Check.enterWrong(hall, 2, 0);
            Check.judgeAll(hall);
            return hall;
        }, 2, 1);
        refused("an entry that waits", () -> {
            RejudgeHall hall = hackHall();
            Check.enterRight(hall, 2, 0);
            return hall;
        }, 2, 1);
        RejudgeHall hall = hackHall();
        Check.enterWrong(hall, 2, 0);
        Check.enterRight(hall, 2, 0);
        Check.enterWrong(hall, 2, 0);
        Check.judgeAll(hall);
        Check.due("one right one of several", true, hall.hack(2, 1));
        hall.input(2);
        Check.fails("team 1 solved it no more", Check.STATE, () -> hall.hack(1, 0));
    }

    /** "on the board as it is without freezing" */
    private static void withoutFreezing() {
        for (int from = NONE; from <= 1; from++) {
            RejudgeHall hall = hackHall();
            hall.freeze(from);
            Check.due("frozen from " + from, true, hall.hack(0, 1));
        }
        refused("as it waits again, it did not solve it", () -> {
            RejudgeHall hall = Check.echoHall(1);
            Check.enterRight(hall, 0, 0);
            hall.judge();
            hall.mend(0, EXACT);
            Check.constant(hall, 5);
            hall.enter(1, 0);
            hall.judge();
            hall.rejudge(0);
            hall.input(3);
            return hall;
        }, 0, 1);
    }

    /** "a RIGHT entry of another team" */
    private static void rightEntryOfAnotherTeam() {
        refused("its own", HackEdgeTest::hackHall, 0, 0);
        refused("its own, that would fail", HackEdgeTest::hackHall, 1, 1);
        int[][] programs = {{PUSH, 6, PRINT, 0}, {JUMP, 0}, Check.times(9, PUSH, 1), {PRINT, 0}, {}};
        for (int i = 0; i < programs.length; i++) {
            int[] pairs = programs[i];
            Twins.Maker maker = () -> {
                RejudgeHall hall = hackHall();
                Check.code(hall, pairs);
                hall.enter(4, 0);
                Check.judgeAll(hall);
                return hall;
            };
            Check.due("its verdict", 1 + i, maker.make().entry(2, 0));
            refused("an entry of the verdict " + (1 + i), maker, 0, 2);
        }
        refused("one that waits", () -> {
            RejudgeHall hall = hackHall();
            Check.constant(hall, 5);
            hall.enter(4, 0);
            return hall;
        }, 0, 2);
        RejudgeHall hall = hackHall();
        hall.mend(0, EXACT);
        Check.due("RIGHT by an older version", true, hall.hack(0, 1));
        hall.input(2);
        Check.fails("hacked already", Check.STATE, () -> hall.hack(0, 1));
    }

    /** "to which the solution has an answer" */
    private static void solutionHasAnAnswer() {
        refused("no input", () -> {
            RejudgeHall hall = hackHall();
            hall.clear();
            hall.code(READ, 0);
            return hall;
        }, 0, 1);
        int[] slowBy0 = {READ, 0, DUP, 0, JZ, 4, JUMP, 5, JUMP, 4, PRINT, 0};
        for (int input = -1; input <= 1; input++) {
            int told = input;
            Twins.Maker maker = () -> {
                RejudgeHall hall = hackHall();
                hall.clear();
                Check.code(hall, slowBy0);
                hall.mend(0, EXACT);
                hall.input(told);
                return hall;
            };
            if (input == 0) {
                refused("the solution is slow by 0", maker, 0, 1);
            } else {
                Check.due("it ends by " + input, true, maker.make().hack(0, 1));
            }
        }
    }

    /** "or the problem has 12 tests" */
    private static void problemHas12Tests() {
        for (int tests = 10; tests <= 12; tests++) {
            int told = tests;
            Twins.Maker maker = () -> {
                RejudgeHall hall = hackHall();
                hall.clear();
                for (int i = 1; i < told; i++) {
                    hall.input(5);
                    hall.test(0, 0);
                }
                hall.input(3);
                return hall;
            };
            if (tests == 12) {
                refused("12 tests", maker, 0, 1);
            } else {
                RejudgeHall hall = maker.make();
                Check.due(tests + " tests", true, hall.hack(0, 1));
                Check.due("one more", 3, hall.answer(0, tests, 0));
                Check.fails("and no other", Check.INDEX, () -> hall.answer(0, told + 1, 0));
            }
        }
        RejudgeHall hall = hackHall();
        hall.clear();
        for (int i = 1; i < 11; i++) {
            hall.input(5);
            hall.test(0, 0);
        }
        hall.input(5);
        Check.due("in vain by 11", false, hall.hack(0, 1));
        hall.input(3);
        Check.due("so 11 are left", true, hall.hack(0, 1));
        hall.input(2);
        Check.fails("12 are not left, for another test", Check.STATE, () -> hall.test(0, 0));
    }

    /** Of several states that are refused none hides another, and none is looked at ahead of an index. */
    private static void severalStatesAtOnce() {
        Twins.Maker noAnswer = () -> {
            RejudgeHall hall = hackHall();
            hall.clear();
            return hall;
        };
        refused("not solved, and no answer", noAnswer, 5, 1);
        refused("its own, and no answer", noAnswer, 1, 1);
        Twins.refused("no team, and no answer", Check.INDEX, noAnswer, hall -> hall.hack(8, 1));
        Twins.refused("no entry, and not solved", Check.INDEX, noAnswer, hall -> hall.hack(5, 2));
        Twins.refused("neither", Check.INDEX, noAnswer, hall -> hall.hack(-1, -1));
    }

    /** "If the entry does not pass that as a test, the hack succeeds", however it fails. */
    private static void doesNotPassThatAsATest() {
        int[][] tails = {{PUSH, 9, PRINT, 0}, {JUMP, 7}, Check.times(9, PUSH, 1), {JUMP, 99}, {}, {PRINT, 0}};
        int[] due = {WRONG, SLOW, MEMORY, CRASHED, SILENT, RIGHT};
        for (int i = 0; i < tails.length; i++) {
            RejudgeHall hall = new RejudgeHall();
            Check.echo(hall);
            hall.problem(30, EXACT);
            hall.input(5);
            hall.test(0, 0);
            Check.enterRight(hall, 0, 0);
            int end = 7 + tails[i].length / 2;
            Check.code(hall, READ, 0, DUP, 0, PUSH, 3, SUB, 0, JZ, 7, PRINT, 0, JUMP, end);
            Check.code(hall, tails[i]);
            hall.enter(1, 0);
            Check.judgeAll(hall);
            Check.due("right so far " + i, RIGHT, hall.entry(1, 0));
            hall.input(3);
            Check.due("the hack " + i, due[i] != RIGHT, hall.hack(0, 1));
            Check.due("the verdict " + i, due[i], hall.entry(1, 0));
            Check.due("the test " + i, due[i] == RIGHT ? NONE : 1, hall.entry(1, 1));
            Check.due("the hacks " + i, due[i] == RIGHT ? -1 : 1, hall.board(0, false, 4));
        }
    }

    /** "at most 1 off", by a hack too */
    private static void byTheCheckerOfNow() {
        for (int checker = EXACT; checker <= NEAR; checker++) {
            for (int input = 3; input <= 7; input++) {
                RejudgeHall hall = hackHall();
                hall.clear();
                hall.mend(0, checker);
                hall.input(input);
                boolean succeeds = Math.abs(input - 5) > checker;
                Check.due("input " + input + ", checker " + checker, succeeds, hall.hack(0, 1));
                Check.due("right, input " + input + ", checker " + checker, succeeds ? WRONG : RIGHT, hall.entry(1, 0));
            }
        }
    }

    /** The entry runs by the limit of the problem: it does 3 steps and 5 for each one of the input. */
    private static void byTheLimit() {
        for (int limit = 22; limit <= 29; limit++) {
            for (int input = 4; input <= 5; input++) {
                RejudgeHall hall = new RejudgeHall();
                hall.problem(limit, EXACT);
                hall.input(1);
                hall.test(0, 0);
                hall.enter(0, 0);
                Check.code(hall, READ, 0, DUP, 0, JZ, 7, PUSH, 1, SUB, 0, JUMP, 1, JUMP, 7);
                hall.enter(1, 0);
                Check.judgeAll(hall);
                hall.input(input);
                boolean isSlow = 3 + 5 * input > limit;
                Check.due(3 + 5 * input + " steps by " + limit, isSlow, hall.hack(0, 1));
                Check.due("then, by " + limit, isSlow ? SLOW : RIGHT, hall.entry(1, 0));
            }
        }
    }

    /** "it becomes a test of the group 3" */
    private static void testOfTheGroup3() {
        RejudgeHall hall = hackHall();
        for (int group = 0; group < 4; group++) {
            hall.points(0, group, 1 << group);
        }
        hall.hack(0, 1);
        Check.due("the hacked one has the group 0 alone", 1, hall.entry(1, 2));
        Check.enterRight(hall, 5, 0);
        Check.constant(hall, 3);
        hall.enter(6, 0);
        Check.judgeAll(hall);
        Check.due("both groups", 9, hall.entry(2, 2));
        Check.due("the group 3 alone", 8, hall.entry(3, 2));
        Check.due("by the version of now", 2, hall.entry(3, 3));
        Check.due("its answer", 3, hall.answer(0, 1, 0));
        Check.due("behind the last", 0, hall.answer(0, 1, 1));
        Check.due("the next test", 2, testBy(hall, 4));
    }

    private static int testBy(RejudgeHall hall, int number) {
        hall.clear();
        hall.input(number);
        return hall.test(0, 0);
    }

    /** "that entry is judged at once, by the version of now" */
    private static void judgedAtOnceByNow() {
        RejudgeHall hall = hackHall();
        Check.due("judged by", 1, hall.entry(1, 3));
        hall.hack(0, 1);
        Check.due("judged by that of the new test", 2, hall.entry(1, 3));
        Check.due("none waits", NONE, hall.judge());
        Check.due("the other one is judged by the older one", 1, hall.entry(0, 3));
        Check.due("so that one alone is judged again", 1, hall.rejudge(0));
        Check.due("the hacked one is not", WRONG, hall.entry(1, 0));
        RejudgeHall mended = hackHall();
        Check.constant(mended, 6);
        mended.mend(0, EXACT);
        mended.points(0, 0, 90);
        Check.due("in between nothing is judged", RIGHT, mended.entry(1, 0));
        Check.due("a hack", true, mended.hack(0, 1));
        Check.due("the first test fails by now", 0, mended.entry(1, 1));
        Check.due("and its group", 0, mended.entry(1, 2));
        Check.due("by the version", 3, mended.entry(1, 3));
        RejudgeHall more = hackHall();
        more.clear();
        more.points(0, 0, 90);
        more.input(3);
        more.hack(0, 1);
        Check.due("by the points of now", 90, more.entry(1, 2));
    }

    /** "the team has 1 hack more. Otherwise it has 1 less, perhaps below 0." */
    private static void oneHackMoreOrLess() {
        RejudgeHall hall = hackHall();
        for (int i = 0; i < 3; i++) {
            Check.constant(hall, 5);
            hall.enter(2 + i, 0);
        }
        Check.judgeAll(hall);
        hall.clear();
        int[] inputs = {5, 5, 4, 3, 2, 5, 1};
        int[] hacked = {1, 2, 1, 2, 3, 4, 4};
        int[] due = {-1, -2, -1, 0, 1, 0, 1};
        for (int i = 0; i < inputs.length; i++) {
            hall.input(inputs[i]);
            Check.due("hack " + i, inputs[i] != 5, hall.hack(0, hacked[i]));
            for (int team = 0; team < 8; team++) {
                Check.due("hacks of team " + team, team == 0 ? due[i] : 0, hall.board(team, false, 4));
                Check.due("on the frozen one too", team == 0 ? due[i] : 0, hall.board(team, true, 4));
            }
        }
        hall.freeze(0);
        Check.due("as it is frozen", 1, hall.board(0, true, 4));
        hall.input(1);
        Check.fails("refused", Check.STATE, () -> hall.hack(0, 1));
        Check.due("a refused one is none", 1, hall.board(0, false, 4));
    }

    /** "The input is taken either way." */
    private static void theInputIsTakenEitherWay() {
        for (int input = 3; input <= 5; input += 2) {
            RejudgeHall hall = hackHall();
            hall.clear();
            Check.input(hall, input, 1, 2, 3);
            Check.code(hall, READ, 0, PRINT, 0, JUMP, 3);
            Check.due("hack by " + input, input == 3, hall.hack(0, 1));
            Check.due("the program stays", CRASHED, hall.run(9, 0));
            Check.due("the input is empty", 1, hall.input(8));
            Check.due("the new one is the first", 8, hall.run(9, 3));
            Check.due("of the program there are", 3, hall.clear());
        }
    }

    /** A hack in vain takes the input, and one hack; nothing else. */
    private static void inVainNothingElse() {
        RejudgeHall hall = hackHall();
        hall.clear();
        hall.input(5);
        int[] before = new int[14];
        int[] after = new int[14];
        told(hall, before);
        hall.hack(0, 1);
        told(hall, after);
        for (int i = 0; i < before.length; i++) {
            Check.due("told of the entries " + i, before[i], after[i]);
        }
        Check.fails("no test", Check.INDEX, () -> hall.answer(0, 1, 0));
        Check.due("no other version", 0, hall.rejudge(0));
        Check.due("the next version", 2, hall.mend(0, EXACT));
        Check.due("the place", 0, hall.board(0, false, 0));
        Check.due("the place of the other one", 1, hall.board(1, false, 0));
    }

    private static void told(RejudgeHall hall, int[] row) {
        for (int i = 0; i < row.length; i++) {
            row[i] = hall.entry(i / 7, i % 7);
        }
    }

    /** "each time counted, by hacks too": of the team of the entry that is judged. */
    private static void fairnessByHacksToo() {
        for (int input = 3; input <= 5; input += 2) {
            RejudgeHall hall = hackHall();
            hall.clear();
            hall.input(input);
            boolean succeeds = hall.hack(0, 1);
            int ofTeam1 = Check.enterRight(hall, 1, 1);
            int ofTeam0 = Check.enterRight(hall, 0, 1);
            Check.due("after a hack by " + input, succeeds ? ofTeam0 : ofTeam1, hall.judge());
            Check.due("then, after a hack by " + input, succeeds ? ofTeam1 : ofTeam0, hall.judge());
        }
    }

    /** An input of none, and one of four numbers. */
    private static void inputsOfAHack() {
        RejudgeHall hall = new RejudgeHall();
        Check.constant(hall, 5);
        hall.problem(20, EXACT);
        Check.input(hall, 1, 1, 1, 1);
        hall.test(0, 0);
        Check.constant(hall, 5);
        hall.enter(0, 0);
        Check.code(hall, READ, 0, PUSH, 5, PRINT, 0);
        hall.enter(1, 0);
        Check.code(hall, READ, 0, READ, 0, READ, 0, READ, 0, PUSH, 4, SUB, 0, JZ, 9, PUSH, 5, PRINT, 0);
        hall.enter(2, 0);
        Check.judgeAll(hall);
        Check.input(hall, 9, 9, 9, 4);
        Check.due("by four, the last one is 4", true, hall.hack(0, 2));
        Check.due("silent then", SILENT, hall.entry(2, 0));
        Check.due("by none", true, hall.hack(0, 1));
        Check.due("crashed then", CRASHED, hall.entry(1, 0));
        Check.due("its answer", 5, hall.answer(0, 2, 0));
    }
}
