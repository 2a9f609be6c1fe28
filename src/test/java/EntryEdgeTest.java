/** The boundary cases of promises 11 to 16, of "Entries" and of the likeness, a method for each sentence. */
public final class EntryEdgeTest {
    private static final int READ = RejudgeHall.READ, PUSH = RejudgeHall.PUSH, ADD = RejudgeHall.ADD,
        SUB = RejudgeHall.SUB, MUL = RejudgeHall.MUL, DUP = RejudgeHall.DUP, SWAP = RejudgeHall.SWAP,
        JZ = RejudgeHall.JZ, JUMP = RejudgeHall.JUMP, PRINT = RejudgeHall.PRINT;
    private static final int EXACT = RejudgeHall.EXACT, NEAR = RejudgeHall.NEAR, NONE = RejudgeHall.NONE;
    private static final int RIGHT = RejudgeHall.RIGHT, WRONG = RejudgeHall.WRONG, SLOW = RejudgeHall.SLOW,
        MEMORY = RejudgeHall.MEMORY, CRASHED = RejudgeHall.CRASHED, SILENT = RejudgeHall.SILENT;

    public static void main(String[] args) {
        atMost60Entries();
        teams0To7();
        perhapsWithoutInstructions();
        minutes1To300();
        minuteNotAbove9999();
        noneIfNoneWaits();
        teamWithTheFewest();
        fewestOfMany();
        lowestNumberOfSeveral();
        eachTimeCounted();
        runsByTheLimit();
        asManyNumbersAsTheAnswer();
        eachTheSameOr1Off();
        silentIfNoOutput();
        failsAsTheRunDid();
        firstTestNotPassed();
        groupsThatHaveATest();
        scoreOf400();
        anotherVersionThanThatOfNow();
        waitsByThatAlone();
        asItWaits();
        whatOfAnEntry();
        bothAreEmpty();
        longerProgram();
        longestRowInOrder();
        numbersOfJzAndJump();
        likenessHasNoSide();
        entryAndLikenessOnlyLook();
        Check.end();
    }

    private static int verdict(RejudgeHall hall, int problem, int... pairs) {
        Check.code(hall, pairs);
        int entry = hall.enter(7, problem);
        Check.judgeAll(hall);
        return hall.entry(entry, 0);
    }

    /** "Entries are numbered from 0, at most 60" */
    private static void atMost60Entries() {
        RejudgeHall hall = Check.echoHall(1);
        for (int i = 0; i < 60; i++) {
            int next = i;
            Check.fails("no entry " + i + " so far", Check.INDEX, () -> hall.entry(next, 0));
            Check.due("entry " + i, i, hall.enter(i % 8, 0));
        }
        Check.echo(hall);
        Check.fails("the 61st", Check.STATE, () -> hall.enter(0, 0));
        Check.fails("no entry 60", Check.INDEX, () -> hall.entry(60, 0));
        Check.due("its program stays", 2, hall.clear());
        for (int i = 0; i < 60; i++) {
            Check.due("the team of " + i, i % 8, hall.entry(i, 4));
        }
        for (int i = 0; i < 60; i++) {
            Check.due("one of them is judged", true, hall.judge() >= 0);
        }
        Check.due("no 61st", NONE, hall.judge());
        Check.due("the last is judged", SILENT, hall.entry(59, 0));
    }

    /** "There are the teams 0 to 7." */
    private static void teams0To7() {
        RejudgeHall hall = Check.echoHall(1);
        for (int team = 0; team < 8; team++) {
            int entry = Check.enterRight(hall, team, 0);
            Check.due("the team of the entry", team, hall.entry(entry, 4));
        }
        Check.judgeAll(hall);
        for (int team = 0; team < 8; team++) {
            Check.due("it solved it", 1, hall.board(team, false, 1));
        }
        Check.fails("team 8", Check.INDEX, () -> hall.enter(8, 0));
        Check.fails("team -1", Check.INDEX, () -> hall.enter(-1, 0));
    }

    /** "Enters the program on the desk, perhaps without instructions." */
    private static void perhapsWithoutInstructions() {
        int[] lengths = {0, 1, 15, 16};
        for (int length : lengths) {
            RejudgeHall hall = new RejudgeHall();
            hall.problem(16, EXACT);
            hall.test(0, 0);
            Check.code(hall, Check.walk(length));
            Check.input(hall, 1, 2, 3);
            Check.due("entered with " + length, 0, hall.enter(0, 0));
            Check.due("the program is taken", 0, hall.run(500, 1));
            Check.due("the input stays", 4, hall.input(4));
            Check.due("the program is empty", 0, hall.clear());
            hall.judge();
            Check.due("it passes", RIGHT, hall.entry(0, 0));
        }
        RejudgeHall hall = Check.echoHall(1);
        Check.due("an empty one that has to print", SILENT, verdict(hall, 0));
    }

    /** "1 to 300": "Lets minutes pass. Returns the minute then." */
    private static void minutes1To300() {
        RejudgeHall hall = new RejudgeHall();
        int minute = 0;
        int[] told = {1, 2, 299, 300, 1};
        for (int minutes : told) {
            Check.fails("0", Check.ARGUMENT, () -> hall.pass(0));
            Check.fails("301", Check.ARGUMENT, () -> hall.pass(301));
            minute += minutes;
            Check.due("the minute then", minute, hall.pass(minutes));
        }
    }

    private static RejudgeHall minute9700() {
        RejudgeHall hall = Check.echoHall(1);
        for (int i = 0; i < 32; i++) {
            hall.pass(300);
        }
        hall.pass(100);
        return hall;
    }

    /** "if it would be above 9999" */
    private static void minuteNotAbove9999() {
        Check.due("to 9998", 9998, minute9700().pass(298));
        Check.due("to 9999", 9999, minute9700().pass(299));
        Twins.refused("to 10000", Check.STATE, EntryEdgeTest::minute9700, hall -> hall.pass(300));
        Twins.refused("out of range", Check.ARGUMENT, EntryEdgeTest::minute9700, hall -> hall.pass(301));
        for (int from = 9997; from <= 9999; from++) {
            RejudgeHall hall = minute9700();
            hall.pass(from - 9700);
            for (int minutes = 1; minutes <= 3; minutes++) {
                int told = minutes;
                if (from + minutes > 9999) {
                    Check.fails(from + " and " + minutes, Check.STATE, () -> hall.pass(told));
                }
            }
            hall.enter(0, 0);
            Check.due("the minute stays", from, hall.entry(0, 6));
            if (from < 9999) {
                Check.due("up to 9999", 9999, hall.pass(9999 - from));
            }
            hall.enter(0, 0);
            Check.due("an entry of 9999", 9999, hall.entry(1, 6));
        }
    }

    /** "NONE if none WAITS" */
    private static void noneIfNoneWaits() {
        RejudgeHall hall = Check.echoHall(1);
        Check.due("no entries", NONE, hall.judge());
        hall.enter(0, 0);
        Check.due("one waits", 0, hall.judge());
        Check.due("none", NONE, hall.judge());
        Check.due("none again", NONE, hall.judge());
        Twins.unchanged("judge, as none waits", () -> {
            RejudgeHall all = Twins.busy();
            Check.judgeAll(all);
            return all;
        }, all -> Check.due("none of the busy hall", NONE, all.judge()));
        hall.enter(7, 0);
        Check.due("one more", 1, hall.judge());
    }

    /** "of the team of which the fewest have been judged" */
    private static void teamWithTheFewest() {
        for (int first = 0; first <= 3; first++) {
            for (int second = 0; second <= 3; second++) {
                RejudgeHall hall = Check.echoHall(1);
                for (int i = 0; i < first; i++) {
                    hall.enter(6, 0);
                }
                for (int i = 0; i < second; i++) {
                    hall.enter(2, 0);
                }
                Check.judgeAll(hall);
                int ofFirst = hall.enter(6, 0);
                int ofSecond = hall.enter(2, 0);
                String name = first + " of team 6, " + second + " of team 2";
                Check.due(name, first <= second ? ofFirst : ofSecond, hall.judge());
                Check.due(name + ", the other one", first <= second ? ofSecond : ofFirst, hall.judge());
            }
        }
        RejudgeHall hall = Check.echoHall(1);
        hall.enter(0, 0);
        hall.judge();
        hall.enter(0, 0);
        hall.enter(0, 0);
        Check.due("a team of which none waits does not matter", 1, hall.judge());
    }

    /** The same, with each count of judgings apart by one, and with as many as the calls of a hall allow. */
    private static void fewestOfMany() {
        RejudgeHall hall = Check.echoHall(1);
        for (int team = 0; team < 8; team++) {
            for (int i = team; i < 9; i++) {
                hall.enter(team, 0);
            }
        }
        Check.judgeAll(hall);
        int first = hall.enter(0, 0);
        for (int team = 1; team < 8; team++) {
            hall.enter(team, 0);
        }
        for (int team = 7; team >= 0; team--) {
            Check.due("9 less the team were judged of each, team " + team, first + team, hall.judge());
        }
        RejudgeHall again = Check.echoHall(3);
        int[] judgings = {41, 40, 39};
        for (int problem = 0; problem < 3; problem++) {
            again.enter(problem, problem);
            again.judge();
            for (int i = 1; i < judgings[problem]; i++) {
                again.mend(problem, EXACT);
                again.rejudge(problem);
                Check.due("judged again", problem, again.judge());
            }
        }
        for (int i = 0; i < 6; i++) {
            again.enter(i % 3, 0);
        }
        int[] order = {5, 4, 8, 3, 7, 6, NONE};
        for (int entry : order) {
            Check.due("41, 40 and 39 were judged", entry, again.judge());
        }
    }

    /** "of several such teams, and of one, the lowest number of an entry" */
    private static void lowestNumberOfSeveral() {
        RejudgeHall hall = Check.echoHall(1);
        int[] teams = {5, 5, 0, 7, 0, 7, 5};
        for (int team : teams) {
            hall.enter(team, 0);
        }
        int[] order = {0, 2, 3, 1, 4, 5, 6, NONE};
        for (int entry : order) {
            Check.due("by the lowest number", entry, hall.judge());
        }
    }

    /** "each time counted": an entry that is judged again counts twice. */
    private static void eachTimeCounted() {
        for (int again = 0; again <= 2; again++) {
            RejudgeHall hall = Check.echoHall(1);
            hall.enter(3, 0);
            hall.judge();
            for (int i = 0; i < again; i++) {
                hall.mend(0, EXACT);
                hall.rejudge(0);
                Check.due("judged again", 0, hall.judge());
            }
            hall.enter(4, 0);
            hall.enter(4, 0);
            Check.due("none of team 4", 1, hall.judge());
            int ofTeam3 = hall.enter(3, 0);
            Check.due("one of team 4, of team 3 " + (1 + again), 2, hall.judge());
            int ofTeam4 = hall.enter(4, 0);
            Check.due("two of team 4", again < 2 ? ofTeam3 : ofTeam4, hall.judge());
        }
    }

    /** "A program passes a test, if its run by the limit does not fail" */
    private static void runsByTheLimit() {
        for (int limit = 2; limit <= 6; limit++) {
            RejudgeHall hall = new RejudgeHall();
            Check.echo(hall);
            hall.problem(limit, EXACT);
            hall.input(5);
            hall.test(0, 0);
            for (int steps = 2; steps <= 8; steps++) {
                int[] pairs = Check.join(new int[] {READ, 0, PRINT, 0}, Check.times(steps - 2, PUSH, 0));
                int due = steps > limit ? SLOW : RIGHT;
                Check.due(steps + " steps by " + limit, due, verdict(hall, 0, pairs));
            }
        }
    }

    private static int[] prints(int count, int number) {
        return Check.times(count, PUSH, number, PRINT, 0);
    }

    /** "its output has as many numbers as the answer" */
    private static void asManyNumbersAsTheAnswer() {
        for (int checker = EXACT; checker <= NEAR; checker++) {
            for (int due = 0; due <= 8; due++) {
                RejudgeHall hall = new RejudgeHall();
                Check.code(hall, prints(due, 0));
                hall.problem(500, checker);
                hall.test(0, 0);
                for (int count = 0; count <= 8; count++) {
                    int want = count == due ? RIGHT : count == 0 ? SILENT : WRONG;
                    Check.due(count + " numbers of " + due, want, verdict(hall, 0, prints(count, 0)));
                }
            }
        }
    }

    /** "each the same, or, by NEAR, at most 1 off" */
    private static void eachTheSameOr1Off() {
        for (int checker = EXACT; checker <= NEAR; checker++) {
            for (int place = 0; place < 8; place++) {
                RejudgeHall hall = new RejudgeHall();
                Check.code(hall, prints(8, 7));
                hall.problem(500, checker);
                hall.test(0, 0);
                for (int off = -2; off <= 2; off++) {
                    int[] pairs = prints(8, 7);
                    pairs[4 * place + 1] += off;
                    int want = Math.abs(off) <= checker ? RIGHT : WRONG;
                    Check.due("number " + place + ", " + off + " off, checker " + checker, want, verdict(hall, 0, pairs));
                }
            }
        }
        RejudgeHall hall = new RejudgeHall();
        Check.code(hall, prints(2, 0));
        hall.problem(500, NEAR);
        hall.test(0, 0);
        Check.due("all 1 off", RIGHT, verdict(hall, 0, PUSH, 1, PRINT, 0, PUSH, -1, PRINT, 0));
        Check.due("the first 2 off", WRONG, verdict(hall, 0, PUSH, 2, PRINT, 0, PUSH, 0, PRINT, 0));
        Check.due("the last 2 off", WRONG, verdict(hall, 0, PUSH, 0, PRINT, 0, PUSH, -2, PRINT, 0));
        Check.due("off by nothing in all, 2 in each", WRONG, verdict(hall, 0, PUSH, 2, PRINT, 0, PUSH, -2, PRINT, 0));
    }

    /** "is SILENT, if it has no output and the answer has, or WRONG" */
    private static void silentIfNoOutput() {
        RejudgeHall hall = Check.echoHall(1);
        Check.due("no output, an answer", SILENT, verdict(hall, 0, READ, 0));
        Check.due("some output", WRONG, verdict(hall, 0, PUSH, 0, PRINT, 0));
        hall.problem(10, NEAR);
        hall.test(1, 0);
        Check.due("no output, an empty answer", RIGHT, verdict(hall, 1, PUSH, 0));
        Check.due("some output, an empty answer", WRONG, verdict(hall, 1, PUSH, 0, PRINT, 0));
    }

    /** "if it does not, it fails as the run did", whatever it has printed. */
    private static void failsAsTheRunDid() {
        RejudgeHall hall = Check.echoHall(1);
        int[] right = {READ, 0, PRINT, 0};
        Check.due("crashed behind a right output", CRASHED, verdict(hall, 0, Check.join(right, READ, 0)));
        Check.due("slow behind a right output", SLOW, verdict(hall, 0, Check.join(right, JUMP, 2)));
        Check.due("crashed without output", CRASHED, verdict(hall, 0, ADD, 0));
        Check.due("slow without output", SLOW, verdict(hall, 0, JUMP, 0));
        Check.due("memory without output", MEMORY, verdict(hall, 0, Check.times(9, PUSH, 1)));
        Check.constant(hall, 9);
        hall.problem(20, EXACT);
        hall.test(1, 0);
        Check.due("memory behind a right output", MEMORY,
            verdict(hall, 1, Check.join(new int[] {PUSH, 9, PRINT, 0}, Check.times(9, PUSH, 1))));
    }

    /** "otherwise how it fails the first one, by numbers, that it does not pass" */
    private static void firstTestNotPassed() {
        for (int first = 0; first <= 12; first++) {
            RejudgeHall hall = new RejudgeHall();
            Check.echo(hall);
            hall.problem(20, EXACT);
            for (int i = 0; i < 12; i++) {
                hall.input(i < first ? 5 : 6);
                hall.test(0, i % 4);
            }
            Check.due("the verdict, first " + first, first == 12 ? RIGHT : WRONG, verdict(hall, 0, PUSH, 5, PRINT, 0));
            Check.due("the test, first " + first, first == 12 ? NONE : first, hall.entry(0, 1));
        }
        RejudgeHall hall = new RejudgeHall();
        Check.echo(hall);
        hall.problem(20, EXACT);
        int[] inputs = {1, 2, 3};
        for (int input : inputs) {
            hall.input(input);
            hall.test(0, 0);
        }
        int[] crashesBy3 = {READ, 0, DUP, 0, PRINT, 0, PUSH, 3, SUB, 0, JZ, 99};
        Check.due("the last one crashes", CRASHED, verdict(hall, 0, crashesBy3));
        Check.due("the last one", 2, hall.entry(0, 1));
        int[] wrongBy2CrashesBy3 = {READ, 0, DUP, 0, DUP, 0, PUSH, 2, SUB, 0, JZ, 8, PRINT, 0, JUMP, 10,
            PUSH, 9, PRINT, 0, PUSH, 3, SUB, 0, JZ, 99};
        Check.due("wrong ahead of crashed", WRONG, verdict(hall, 0, wrongBy2CrashesBy3));
        Check.due("the second one", 1, hall.entry(1, 1));
    }

    /** "the points of all groups that have a test, and of which it passes all" */
    private static void groupsThatHaveATest() {
        for (int failing = 0; failing <= 6; failing++) {
            RejudgeHall hall = new RejudgeHall();
            Check.echo(hall);
            hall.problem(20, EXACT);
            int[] points = {1, 10, 20, 40};
            for (int group = 0; group < 4; group++) {
                hall.points(0, group, points[group]);
            }
            int[] groups = {3, 0, 0, 2, 2, 2};
            for (int i = 0; i < 6; i++) {
                hall.input(i == failing ? 6 : 5);
                hall.test(0, groups[i]);
            }
            verdict(hall, 0, PUSH, 5, PRINT, 0);
            int all = 1 + 20 + 40;
            int due = failing == 6 ? all : all - points[groups[failing]];
            Check.due("one fails, of the group of " + failing, due, hall.entry(0, 2));
        }
        RejudgeHall hall = new RejudgeHall();
        hall.problem(1, EXACT);
        Check.due("no tests", RIGHT, verdict(hall, 0));
        Check.due("no group has one", 0, hall.entry(0, 2));
    }

    /** The most that a score can be, with each group at 100, and the least. */
    private static void scoreOf400() {
        RejudgeHall hall = new RejudgeHall();
        hall.problem(1, EXACT);
        for (int group = 0; group < 4; group++) {
            hall.points(0, group, 100);
            hall.test(0, group);
        }
        verdict(hall, 0);
        Check.due("all", 400, hall.entry(0, 2));
        verdict(hall, 0, ADD, 0);
        Check.due("none", 0, hall.entry(1, 2));
        for (int group = 0; group < 4; group++) {
            hall.points(0, group, 0);
        }
        verdict(hall, 0);
        Check.due("all, of 0", 0, hall.entry(2, 2));
        Check.due("and right", RIGHT, hall.entry(2, 0));
    }

    /** "that were judged by another version than that of now" */
    private static void anotherVersionThanThatOfNow() {
        RejudgeHall hall = Check.echoHall(2);
        for (int i = 0; i < 3; i++) {
            Check.enterRight(hall, i, 0);
            Check.enterRight(hall, i, 1);
            Check.judgeAll(hall);
            Check.due("all of the other problem are of that of now", 0, hall.rejudge(1));
            hall.mend(0, EXACT);
        }
        Check.due("three versions before", 3, hall.rejudge(0));
        Check.due("the other problem's none", 0, hall.rejudge(1));
        Check.judgeAll(hall);
        Check.due("all are of that of now", 0, hall.rejudge(0));
        Check.enterRight(hall, 7, 0);
        Check.judgeAll(hall);
        hall.input(1);
        hall.test(1, 0);
        Check.due("the other problem's", 3, hall.rejudge(1));
        Check.due("of this one none", 0, hall.rejudge(0));
    }

    /** "Returns how many entries WAIT by that." */
    private static void waitsByThatAlone() {
        RejudgeHall hall = Check.echoHall(1);
        Check.due("no entries", 0, hall.rejudge(0));
        Check.enterRight(hall, 0, 0);
        Check.enterRight(hall, 0, 0);
        Check.due("those that wait do not wait by that", 0, hall.rejudge(0));
        hall.judge();
        hall.mend(0, EXACT);
        Check.due("the judged one", 1, hall.rejudge(0));
        Check.due("it waits already", 0, hall.rejudge(0));
        Check.due("it is judged again", 0, hall.judge());
        Check.due("then the other one", 1, hall.judge());
        Check.due("none waits", NONE, hall.judge());
        Twins.unchanged("rejudge, as none is of another version", () -> {
            RejudgeHall twin = Twins.busy();
            twin.rejudge(0);
            twin.rejudge(1);
            twin.rejudge(2);
            return twin;
        }, twin -> Check.due("none", 0, twin.rejudge(0)));
    }

    /** "as long as they WAIT they have no verdict" */
    private static void asItWaits() {
        RejudgeHall hall = Check.echoHall(1);
        Check.enterRight(hall, 2, 0);
        Check.enterWrong(hall, 3, 0);
        int[][] judged = {{RIGHT, NONE, 25, 1}, {WRONG, 0, 0, 1}};
        int[] waiting = {NONE, NONE, 0, NONE};
        for (int round = 0; round < 3; round++) {
            for (int entry = 0; entry < 2; entry++) {
                for (int what = 0; what < 4; what++) {
                    Check.due("waiting, round " + round + ", what " + what, waiting[what], hall.entry(entry, what));
                }
            }
            Check.due("not on the board", 0, hall.board(2, false, 1));
            Check.judgeAll(hall);
            for (int entry = 0; entry < 2; entry++) {
                for (int what = 0; what < 4; what++) {
                    int due = judged[entry][what] + (what == 3 ? round : 0);
                    Check.due("judged, round " + round + ", what " + what, due, hall.entry(entry, what));
                }
            }
            Check.due("on the board", 1, hall.board(2, false, 1));
            hall.mend(0, EXACT);
            Check.due("both wait", 2, hall.rejudge(0));
        }
    }

    /** "4 its team, 5 its problem, 6 its minute", and 0 to 6 alone */
    private static void whatOfAnEntry() {
        RejudgeHall hall = Check.echoHall(6);
        int[] minutes = {0, 1, 300, 300, 1, 9};
        int minute = 0;
        for (int i = 0; i < 6; i++) {
            minute += minutes[i];
            if (minutes[i] > 0) {
                hall.pass(minutes[i]);
            }
            int entry = Check.enterRight(hall, 7 - i, i);
            Check.due("team", 7 - i, hall.entry(entry, 4));
            Check.due("problem", i, hall.entry(entry, 5));
            Check.due("minute", minute, hall.entry(entry, 6));
            Check.fails("what 7", Check.ARGUMENT, () -> hall.entry(entry, 7));
            Check.fails("what -1", Check.ARGUMENT, () -> hall.entry(entry, -1));
            Check.fails("the next entry", Check.INDEX, () -> hall.entry(entry + 1, 6));
        }
        Check.judgeAll(hall);
        for (int i = 0; i < 6; i++) {
            Check.due("team, as it is judged", 7 - i, hall.entry(i, 4));
            Check.due("problem, as it is judged", i, hall.entry(i, 5));
        }
    }

    private static int likeness(int[] one, int[] two) {
        RejudgeHall hall = new RejudgeHall();
        hall.problem(1, EXACT);
        hall.problem(1, EXACT);
        Check.code(hall, one);
        hall.enter(0, 0);
        Check.code(hall, two);
        hall.enter(1, 1);
        int there = hall.likeness(0, 1);
        Check.due("the other way", there, hall.likeness(1, 0));
        return there;
    }

    /** "100, if both are empty" */
    private static void bothAreEmpty() {
        int[] none = {};
        Check.due("both empty", 100, likeness(none, none));
        for (int length = 1; length <= 16; length++) {
            Check.due("one empty, the other has " + length, 0, likeness(none, Check.walk(length)));
        }
    }

    /** "divided by how many instructions the longer program has, rounded down" */
    private static void longerProgram() {
        for (int longer = 1; longer <= 16; longer++) {
            for (int shorter = 0; shorter <= longer; shorter++) {
                int[] one = Check.times(longer, DUP, 0);
                int[] two = Check.times(shorter, DUP, 0);
                Check.due(shorter + " of " + longer, 100 * shorter / longer, likeness(one, two));
                int[] other = Check.join(two, Check.times(longer - shorter, ADD, 0));
                Check.due(shorter + " the same of " + longer, 100 * shorter / longer, likeness(one, other));
            }
        }
    }

    /** "the longest row of instructions that is in both, in order, with others between" */
    private static void longestRowInOrder() {
        int[] abcd = {READ, 0, ADD, 0, SUB, 0, MUL, 0};
        Check.due("the same", 100, likeness(abcd, abcd.clone()));
        Check.due("turned round", 25, likeness(abcd, new int[] {MUL, 0, SUB, 0, ADD, 0, READ, 0}));
        Check.due("the first moved behind", 75, likeness(abcd, new int[] {ADD, 0, SUB, 0, MUL, 0, READ, 0}));
        Check.due("the last moved ahead", 75, likeness(abcd, new int[] {MUL, 0, READ, 0, ADD, 0, SUB, 0}));
        Check.due("halves changed", 50, likeness(abcd, new int[] {SUB, 0, MUL, 0, READ, 0, ADD, 0}));
        Check.due("others between", 50,
            likeness(abcd, new int[] {READ, 0, DUP, 0, ADD, 0, DUP, 0, SUB, 0, DUP, 0, MUL, 0, DUP, 0}));
        Check.due("others between in both", 42, likeness(new int[] {READ, 0, SWAP, 0, ADD, 0, SWAP, 0, MUL, 0, SWAP, 0, SWAP, 0},
            new int[] {READ, 0, DUP, 0, ADD, 0, DUP, 0, MUL, 0, DUP, 0, DUP, 0}));
        Check.due("one doubled is one", 25, likeness(new int[] {READ, 0}, Check.times(4, READ, 0)));
        Check.due("none the same", 0, likeness(abcd, Check.times(4, PRINT, 0)));
        int[] first = Check.join(Check.times(8, ADD, 0), Check.times(8, SUB, 0));
        int[] second = Check.join(Check.times(8, SUB, 0), Check.times(8, ADD, 0));
        Check.due("8 of 16", 50, likeness(first, second));
    }

    /** "numbers with them left out of account, but for those of JZ and JUMP" */
    private static void numbersOfJzAndJump() {
        for (int sort = READ; sort <= PRINT; sort++) {
            boolean goes = sort == JZ || sort == JUMP;
            int[][] numbers = {{0, 0}, {0, 1}, {0, -1}, {99, 98}, {-99, 99}, {-99, -99}};
            for (int[] both : numbers) {
                int due = goes && both[0] != both[1] ? 0 : 100;
                Check.due("sort " + sort + ", numbers " + both[0] + " and " + both[1], due,
                    likeness(new int[] {sort, both[0]}, new int[] {sort, both[1]}));
            }
            for (int other = READ; other <= PRINT; other++) {
                Check.due("sorts " + sort + " and " + other, sort == other ? 100 : 0,
                    likeness(new int[] {sort, 3}, new int[] {other, 3}));
            }
        }
    }

    /** Of entries of the same and of other teams and problems, and of one itself. */
    private static void likenessHasNoSide() {
        RejudgeHall hall = Check.echoHall(2);
        hall.enter(0, 0);
        Check.enterRight(hall, 1, 1);
        Check.enterRight(hall, 1, 0);
        Check.code(hall, READ, 0);
        hall.enter(7, 1);
        int[][] due = {{100, 0, 0, 0}, {0, 100, 100, 50}, {0, 100, 100, 50}, {0, 50, 50, 100}};
        for (int one = 0; one < 4; one++) {
            for (int two = 0; two < 4; two++) {
                Check.due("likeness of " + one + " and " + two, due[one][two], hall.likeness(one, two));
            }
        }
    }

    private static void entryAndLikenessOnlyLook() {
        for (int what = 0; what < 7; what++) {
            int asked = what;
            Twins.unchanged("entry, what " + what, Twins::busy, hall -> hall.entry(7, asked));
            Twins.unchanged("entry of a full hall, what " + what, Twins::full, hall -> hall.entry(59, asked));
        }
        Twins.unchanged("likeness", Twins::busy, hall -> hall.likeness(3, 7));
        Twins.unchanged("likeness in a full hall", Twins::full, hall -> hall.likeness(0, 59));
    }
}
