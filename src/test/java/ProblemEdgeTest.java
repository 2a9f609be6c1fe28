/** The boundary cases of promises 6 to 10 and of "Problems", a method for each sentence. */
public final class ProblemEdgeTest {
    private static final int READ = RejudgeHall.READ, PUSH = RejudgeHall.PUSH, ADD = RejudgeHall.ADD,
        DUP = RejudgeHall.DUP, JZ = RejudgeHall.JZ, JUMP = RejudgeHall.JUMP, PRINT = RejudgeHall.PRINT;
    private static final int EXACT = RejudgeHall.EXACT, NEAR = RejudgeHall.NEAR, NONE = RejudgeHall.NONE;
    private static final int RIGHT = RejudgeHall.RIGHT, WRONG = RejudgeHall.WRONG, SLOW = RejudgeHall.SLOW;

    public static void main(String[] args) {
        atMost6Problems();
        takesTheProgramAlone();
        limitOfSteps();
        atMost12Tests();
        takesTheInputAlone();
        fourGroups();
        within500StepsWhateverTheLimit();
        endsWithoutFailing();
        pointsAre25AtFirst();
        pointsFromNowOn();
        versionIs0AtFirst();
        versionByEachTestAndMending();
        refusedCallsMakeNoVersion();
        programIfItHasInstructions();
        eachTestHasAnAnswerStill();
        mendedWithin500Steps();
        mendsWithoutTests();
        mendTakesTheProgramAlone();
        checkersMended();
        placesOfAnAnswer();
        answersAreByTheSolutionOfNow();
        answerOnlyLooks();
        Check.end();
    }

    /** "Problems are numbered from 0, at most 6" */
    private static void atMost6Problems() {
        RejudgeHall hall = new RejudgeHall();
        for (int i = 0; i < 6; i++) {
            int next = i;
            Check.fails("no problem " + i + " so far", Check.INDEX, () -> hall.mend(next, EXACT));
            Check.constant(hall, i);
            Check.due("problem " + i, i, hall.problem(i == 0 ? 1 : 500, i % 2));
            Check.due("test of problem " + i, 0, hall.test(i, 0));
        }
        Check.constant(hall, 6);
        Check.fails("the 7th problem", Check.STATE, () -> hall.problem(1, EXACT));
        Check.due("its program stays", 6, hall.run(500, 3));
        for (int i = 0; i < 6; i++) {
            Check.due("the solution of " + i, i, hall.answer(i, 0, 0));
        }
        Check.fails("no problem 6", Check.INDEX, () -> hall.answer(6, 0, 0));
    }

    /** "Makes a problem by the program on the desk": "what takes one of them leaves it empty" */
    private static void takesTheProgramAlone() {
        for (int length = 0; length <= 16; length += 8) {
            RejudgeHall hall = Check.desk(Check.walk(length), 1, 2, 3);
            Check.due("problem by " + length, 0, hall.problem(1, EXACT));
            Check.due("nothing to run", 0, hall.run(500, 1));
            Check.due("the input stays", 4, hall.input(4));
            Check.due("the program is empty", 1, hall.code(READ, 0));
            hall.code(PRINT, 0);
            Check.due("the first of the input", 1, hall.run(500, 3));
        }
    }

    /** "1 to 500 steps": a program passes by the limit, and not by one step more. */
    private static void limitOfSteps() {
        for (int limit = 1; limit <= 15; limit++) {
            RejudgeHall hall = new RejudgeHall();
            hall.problem(limit, EXACT);
            hall.test(0, 0);
            for (int steps = limit - 1; steps <= limit + 1; steps++) {
                Check.code(hall, Check.walk(steps));
                int entry = hall.enter(0, 0);
                hall.judge();
                Check.due(steps + " steps by " + limit, steps > limit ? SLOW : RIGHT, hall.entry(entry, 0));
            }
        }
        RejudgeHall hall = new RejudgeHall();
        hall.problem(500, EXACT);
        hall.problem(499, EXACT);
        hall.test(0, 0);
        hall.test(1, 0);
        for (int more = 4; more <= 6; more++) {
            for (int problem = 0; problem < 2; problem++) {
                Check.code(hall, steps495And(more));
                int entry = hall.enter(0, problem);
                hall.judge();
                int due = more > 5 - problem ? SLOW : RIGHT;
                Check.due(495 + more + " steps, problem " + problem, due, hall.entry(entry, 0));
            }
        }
    }

    private static int[] steps495And(int more) {
        int[] pairs = Check.countDown(99);
        for (int i = 1; i <= more; i++) {
            pairs = Check.join(pairs, JUMP, 6 + i);
        }
        return pairs;
    }

    /** "Its tests are numbered from 0, at most 12" */
    private static void atMost12Tests() {
        RejudgeHall hall = Check.echoHall(0);
        for (int problem = 0; problem < 2; problem++) {
            int asked = problem;
            Check.echo(hall);
            hall.problem(10, EXACT);
            for (int i = 0; i < 12; i++) {
                int next = i;
                Check.fails("no test " + i + " so far", Check.INDEX, () -> hall.answer(asked, next, 0));
                hall.input(i - 6);
                Check.due("test " + i, i, hall.test(problem, i % 4));
            }
            hall.input(8);
            Check.fails("the 13th test", Check.STATE, () -> hall.test(asked, 0));
            Check.fails("no test 12", Check.INDEX, () -> hall.answer(asked, 12, 0));
            for (int i = 0; i < 12; i++) {
                Check.due("the answer to " + i, i - 6, hall.answer(problem, i, 0));
            }
            Check.due("no version of the 13th", 13, hall.mend(problem, EXACT));
            Check.due("its input stays", 2, hall.input(8));
            hall.clear();
        }
        Twins.refused("the 13th test", Check.STATE, Twins::full, told -> told.test(0, 3));
        Twins.refused("the 13th test, without an answer", Check.STATE, () -> {
            RejudgeHall told = Twins.full();
            told.clear();
            return told;
        }, told -> told.test(0, 3));
    }

    /** "Makes a test by the input on the desk": "what takes one of them leaves it empty" */
    private static void takesTheInputAlone() {
        for (int count = 0; count <= 4; count++) {
            RejudgeHall hall = new RejudgeHall();
            Check.code(hall, Check.times(count, READ, 0, PRINT, 0));
            hall.problem(10, EXACT);
            for (int i = 0; i < count; i++) {
                hall.input(9 - i);
            }
            Check.constant(hall, 3);
            Check.due("a test by " + count, 0, hall.test(0, 0));
            for (int i = 0; i < 4; i++) {
                Check.due("its number " + i, i < count ? 9 - i : 0, hall.answer(0, 0, i));
            }
            Check.due("the program stays", 3, hall.run(500, 3));
            Check.due("the input is empty", 1, hall.input(1));
            Check.due("of the program there are", 2, hall.clear());
        }
    }

    /** "a group, 0 to 3, of which each has points" */
    private static void fourGroups() {
        for (int group = 0; group < 4; group++) {
            RejudgeHall hall = new RejudgeHall();
            hall.problem(1, EXACT);
            for (int i = 0; i < 4; i++) {
                hall.points(0, i, 1 << i);
            }
            hall.test(0, group);
            hall.enter(0, 0);
            hall.judge();
            Check.due("the points of the group " + group, 1 << group, hall.entry(0, 2));
        }
    }

    /** "within 500 steps whatever the limit" */
    private static void within500StepsWhateverTheLimit() {
        for (int limit = 1; limit <= 500; limit += 499) {
            for (int more = 4; more <= 6; more++) {
                int told = limit;
                int steps = more;
                Twins.Maker maker = () -> {
                    RejudgeHall hall = new RejudgeHall();
                    Check.code(hall, steps495And(steps));
                    hall.problem(told, EXACT);
                    Check.input(hall, 1, 2);
                    return hall;
                };
                if (more > 5) {
                    Twins.refused("a solution of 501 steps", Check.STATE, maker, hall -> hall.test(0, 0));
                } else {
                    Check.due("a solution of " + (495 + more), 0, maker.make().test(0, 0));
                }
            }
        }
    }

    /** "it has to end without failing" */
    private static void endsWithoutFailing() {
        int[][] failing = {{ADD, 0}, {READ, 0, READ, 0}, {JUMP, 2}, {JUMP, 0}, Check.times(9, PUSH, 1),
            {PUSH, 1, PRINT, 0, JUMP, 0}, {PUSH, 1, PRINT, 0, PRINT, 0}};
        int[][] ending = {{}, {READ, 0}, {JUMP, 1}, Check.times(8, PUSH, 1), Check.times(8, PUSH, 1, PRINT, 0)};
        for (int i = 0; i < failing.length; i++) {
            int[] pairs = failing[i];
            Twins.refused("a solution that fails " + i, Check.STATE, () -> {
                RejudgeHall hall = new RejudgeHall();
                Check.code(hall, pairs);
                hall.problem(500, EXACT);
                hall.input(1);
                return hall;
            }, hall -> hall.test(0, 0));
        }
        for (int i = 0; i < ending.length; i++) {
            RejudgeHall hall = new RejudgeHall();
            Check.code(hall, ending[i]);
            hall.problem(1, EXACT);
            hall.input(1);
            Check.due("a solution that ends " + i, 0, hall.test(0, 0));
        }
    }

    /** "points, 25 at first", "0 to 100", "Returns those before." */
    private static void pointsAre25AtFirst() {
        RejudgeHall hall = Check.echoHall(2);
        int[] told = {0, 1, 99, 100};
        for (int problem = 0; problem < 2; problem++) {
            for (int group = 0; group < 4; group++) {
                int before = 25;
                for (int points : told) {
                    Check.due("points before", before, hall.points(problem, group, points));
                    before = points;
                }
                int asked = problem;
                int askedGroup = group;
                Check.fails("101", Check.ARGUMENT, () -> hall.points(asked, askedGroup, 101));
                Check.fails("-1", Check.ARGUMENT, () -> hall.points(asked, askedGroup, -1));
                Check.due("those before the refused ones", 100, hall.points(problem, group, group));
            }
        }
        for (int problem = 0; problem < 2; problem++) {
            for (int group = 0; group < 4; group++) {
                Check.due("each group has its own", group, hall.points(problem, group, 5));
            }
        }
    }

    /** "Sets the points of a group, for what is judged from now on." */
    private static void pointsFromNowOn() {
        RejudgeHall hall = Check.echoHall(1);
        Check.enterRight(hall, 0, 0);
        Check.enterRight(hall, 1, 0);
        hall.judge();
        hall.points(0, 0, 100);
        Check.due("judged before", 25, hall.entry(0, 2));
        Check.due("not judged", 0, hall.entry(1, 2));
        hall.judge();
        Check.due("judged by 100", 100, hall.entry(1, 2));
        hall.points(0, 0, 0);
        Check.due("judged by 100 still", 100, hall.entry(1, 2));
        Check.due("points are no version", 0, hall.rejudge(0));
        hall.mend(0, EXACT);
        hall.rejudge(0);
        Check.judgeAll(hall);
        Check.due("judged by 0", 0, hall.entry(0, 2));
        Check.due("judged by 0 too", 0, hall.entry(1, 2));
    }

    /** "A problem has a version, 0 at first" */
    private static void versionIs0AtFirst() {
        RejudgeHall hall = new RejudgeHall();
        hall.problem(1, EXACT);
        hall.enter(0, 0);
        Check.due("as it waits", NONE, hall.entry(0, 3));
        hall.judge();
        Check.due("judged by", 0, hall.entry(0, 3));
        Check.due("judged by that of now", 0, hall.rejudge(0));
        hall.test(0, 0);
        Check.due("judged by another", 1, hall.rejudge(0));
        hall.judge();
        Check.due("judged by 1", 1, hall.entry(0, 3));
    }

    /** "1 more with each test that it gets, and each time that its solution or checker is mended" */
    private static void versionByEachTestAndMending() {
        RejudgeHall hall = Check.echoHall(2);
        Check.due("a checker is mended", 2, hall.mend(0, NEAR));
        Check.echo(hall);
        Check.due("a solution is mended", 3, hall.mend(0, NEAR));
        Check.echo(hall);
        Check.due("both are mended", 4, hall.mend(0, EXACT));
        hall.input(1);
        hall.test(0, 3);
        Check.due("and a test", 6, hall.mend(0, NEAR));
        Check.due("the other problem has its own", 2, hall.mend(1, NEAR));
        Check.enterRight(hall, 0, 0);
        Check.constant(hall, 1);
        hall.enter(1, 0);
        hall.judge();
        Check.due("judged by", 6, hall.entry(0, 3));
        Check.enterRight(hall, 2, 1);
        Check.judgeAll(hall);
        Check.due("judged by, of the other", 2, hall.entry(2, 3));
        Check.due("judging makes no version", 7, hall.mend(0, NEAR));
    }

    /** "A call that throws changes nothing", the version neither. */
    private static void refusedCallsMakeNoVersion() {
        RejudgeHall hall = Check.echoHall(1);
        Check.fails("a test without an answer", Check.STATE, () -> hall.test(0, 0));
        Check.fails("a test of no group", Check.INDEX, () -> hall.test(0, 4));
        Check.fails("a mending by no checker", Check.ARGUMENT, () -> hall.mend(0, 2));
        hall.code(ADD, 0);
        Check.fails("a mending without answers", Check.STATE, () -> hall.mend(0, NEAR));
        hall.clear();
        Check.due("the first mending", 2, hall.mend(0, EXACT));
    }

    /** "the program on the desk is its solution then, if it has instructions; otherwise that stays" */
    private static void programIfItHasInstructions() {
        RejudgeHall hall = Check.echoHall(1);
        hall.mend(0, EXACT);
        Check.due("by none it stays", 5, hall.answer(0, 0, 0));
        hall.code(JUMP, 1);
        hall.mend(0, EXACT);
        Check.due("by one it is that", 0, hall.answer(0, 0, 0));
        Check.due("the desk is empty", 0, hall.clear());
        Check.code(hall, Check.join(Check.walk(14), PUSH, 6, PRINT, 0));
        hall.mend(0, EXACT);
        Check.due("by 16 it is that", 6, hall.answer(0, 0, 0));
        hall.mend(0, EXACT);
        Check.due("by none that stays", 6, hall.answer(0, 0, 0));
    }

    /** "when they are mended each test has to have an answer still" */
    private static void eachTestHasAnAnswerStill() {
        for (int without = 0; without < 3; without++) {
            int short1 = without;
            Twins.refused("no answer to the test " + without, Check.STATE, () -> {
                RejudgeHall hall = Check.echoHall(0);
                Check.echo(hall);
                hall.problem(10, EXACT);
                for (int i = 0; i < 3; i++) {
                    Check.input(hall, i == short1 ? new int[] {4} : new int[] {4, 5});
                    hall.test(0, i);
                }
                Check.echo(hall);
                Check.echo(hall);
                hall.input(6);
                return hall;
            }, hall -> hall.mend(0, NEAR));
        }
        RejudgeHall hall = Check.echoHall(1);
        Check.code(hall, READ, 0, READ, 0);
        Check.fails("two numbers", Check.STATE, () -> hall.mend(0, NEAR));
        Check.due("the checker stays too", WRONG, judged(hall, 4));
        hall.clear();
        hall.code(READ, 0);
        Check.due("one number", 2, hall.mend(0, NEAR));
    }

    /** The verdict of a program that prints a number, for the problem 0; the desk is emptied ahead. */
    private static int judged(RejudgeHall hall, int number) {
        hall.clear();
        Check.constant(hall, number);
        int entry = hall.enter(6, 0);
        Check.judgeAll(hall);
        return hall.entry(entry, 0);
    }

    /** "within 500 steps whatever the limit", for a solution that is mended. */
    private static void mendedWithin500Steps() {
        for (int more = 4; more <= 6; more++) {
            int steps = more;
            Twins.Maker maker = () -> {
                RejudgeHall hall = Check.echoHall(1);
                Check.code(hall, steps495And(steps));
                return hall;
            };
            if (more > 5) {
                Twins.refused("mended by 501 steps", Check.STATE, maker, hall -> hall.mend(0, EXACT));
            } else {
                Check.due("mended by " + (495 + more), 2, maker.make().mend(0, EXACT));
            }
        }
    }

    /** Without tests there is none that would have no answer. */
    private static void mendsWithoutTests() {
        RejudgeHall hall = new RejudgeHall();
        hall.problem(1, EXACT);
        hall.code(ADD, 0);
        Check.due("a solution that crashes", 1, hall.mend(0, EXACT));
        Check.fails("then no test has an answer", Check.STATE, () -> hall.test(0, 0));
        hall.code(JUMP, 1);
        Check.due("one that ends", 2, hall.mend(0, EXACT));
        Check.due("then a test has", 0, hall.test(0, 0));
    }

    /** "what takes one of them leaves it empty", and the other one stays. */
    private static void mendTakesTheProgramAlone() {
        RejudgeHall hall = Check.echoHall(1);
        Check.constant(hall, 4);
        Check.input(hall, 7, 8);
        hall.mend(0, EXACT);
        Check.due("the program is taken", 0, hall.run(500, 1));
        Check.due("the input stays", 3, hall.input(9));
        Check.echo(hall);
        Check.due("as it was", 7, hall.run(500, 3));
        Check.due("how many were told since", 2, hall.clear());
        Check.due("the answer is the constant", 4, hall.answer(0, 0, 0));
    }

    /** "EXACT or NEAR" */
    private static void checkersMended() {
        RejudgeHall hall = Check.echoHall(1);
        for (int round = 0; round < 2; round++) {
            for (int checker = EXACT; checker <= NEAR; checker++) {
                hall.mend(0, checker);
                for (int off = -2; off <= 2; off++) {
                    int due = Math.abs(off) <= checker ? RIGHT : WRONG;
                    Check.due(off + " off by " + checker, due, judged(hall, 5 + off));
                }
            }
        }
    }

    /** "0 for the first one", "0 behind the last one", "place is below 0" */
    private static void placesOfAnAnswer() {
        for (int count = 0; count <= 8; count++) {
            RejudgeHall hall = new RejudgeHall();
            for (int i = 0; i < count; i++) {
                Check.constant(hall, 90 + i);
            }
            hall.problem(1, EXACT);
            hall.test(0, 0);
            for (int place = 0; place <= 9; place++) {
                int due = place < count ? 90 + place : 0;
                Check.due("place " + place + " of " + count, due, hall.answer(0, 0, place));
            }
            Check.due("far behind " + count, 0, hall.answer(0, 0, Integer.MAX_VALUE));
            Check.fails("below " + count, Check.INDEX, () -> hall.answer(0, 0, -1));
            Check.fails("far below " + count, Check.INDEX, () -> hall.answer(0, 0, Integer.MIN_VALUE));
        }
    }

    /** The answers are those of the solution, with nothing of an older one behind them. */
    private static void answersAreByTheSolutionOfNow() {
        RejudgeHall hall = new RejudgeHall();
        Check.code(hall, READ, 0, DUP, 0, DUP, 0, PRINT, 0, PRINT, 0, PRINT, 0);
        hall.problem(20, EXACT);
        hall.input(4);
        hall.test(0, 0);
        hall.input(-4);
        hall.test(0, 0);
        Check.code(hall, READ, 0, PUSH, 1, ADD, 0, PRINT, 0);
        hall.mend(0, EXACT);
        for (int place = 0; place < 4; place++) {
            Check.due("fewer: place " + place, place == 0 ? 5 : 0, hall.answer(0, 0, place));
            Check.due("fewer: place " + place, place == 0 ? -3 : 0, hall.answer(0, 1, place));
        }
        Check.code(hall, READ, 0, DUP, 0, PRINT, 0, PRINT, 0);
        hall.mend(0, EXACT);
        for (int place = 0; place < 4; place++) {
            Check.due("more: place " + place, place < 2 ? 4 : 0, hall.answer(0, 0, place));
            Check.due("more: place " + place, place < 2 ? -4 : 0, hall.answer(0, 1, place));
        }
        hall.code(JZ, 0);
        Check.fails("a solution that crashes", Check.STATE, () -> hall.mend(0, EXACT));
        Check.due("the answer stays", 4, hall.answer(0, 0, 1));
    }

    private static void answerOnlyLooks() {
        Twins.unchanged("answer", Twins::busy, hall -> hall.answer(0, 1, 0));
        Twins.unchanged("answer, of a full hall", Twins::full, hall -> hall.answer(0, 11, 8));
    }
}
