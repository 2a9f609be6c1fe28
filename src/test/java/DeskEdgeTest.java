/** The boundary cases of promises 1 to 5 and of "The machine", a method for each sentence. */
public final class DeskEdgeTest {
    private static final int READ = RejudgeHall.READ, PUSH = RejudgeHall.PUSH, ADD = RejudgeHall.ADD,
        SUB = RejudgeHall.SUB, MUL = RejudgeHall.MUL, DUP = RejudgeHall.DUP, SWAP = RejudgeHall.SWAP,
        JZ = RejudgeHall.JZ, JUMP = RejudgeHall.JUMP, PRINT = RejudgeHall.PRINT;
    private static final int RIGHT = RejudgeHall.RIGHT, SLOW = RejudgeHall.SLOW,
        MEMORY = RejudgeHall.MEMORY, CRASHED = RejudgeHall.CRASHED, NONE = RejudgeHall.NONE;
    /** 999999 in nine instructions: ((99 + 3) * 99 + 3) * 99. */
    private static final int[] GREATEST = {PUSH, 99, PUSH, 3, ADD, 0, PUSH, 99, MUL, 0, PUSH, 3, ADD, 0, PUSH, 99, MUL, 0};
    private static final int[] LEAST = {PUSH, -99, PUSH, -3, ADD, 0, PUSH, 99, MUL, 0, PUSH, -3, ADD, 0, PUSH, 99, MUL, 0};

    public static void main(String[] args) {
        noProblemsAndEntries();
        theMinuteIs0();
        notFrozen();
        upTo16Instructions();
        numbersFromMinus99To99();
        upTo4NumbersOfInput();
        clearEmptiesBoth();
        runLeavesTheDesk();
        eachRunBeginsEmpty();
        takesWhatIsThere();
        lowerAndUpper();
        goesIf0();
        inputHasNoNumberMore();
        madeAbove999999();
        madeBelowMinus999999();
        madeBeyondInt();
        instructionThatComes();
        stackOf8();
        outputOf8();
        crashedFirstThenMemory();
        moreStepsThanTheLimit();
        limits1To500();
        failingStepIsCounted();
        numberKOfTheOutput();
        outputOfWhatFailed();
        fiveHundredAndTwelveCalls();
        Check.end();
    }

    /** end, steps, and how many numbers the output has */
    private static void ran(String name, RejudgeHall hall, int limit, int end, int steps, int output) {
        Check.due(name + ": end", end, hall.run(limit, 0));
        Check.due(name + ": steps", steps, hall.run(limit, 1));
        Check.due(name + ": output", output, hall.run(limit, 2));
    }

    private static void ran(String name, int[] pairs, int end, int steps) {
        ran(name, Check.desk(pairs), 500, end, steps, 0);
    }

    private static int printed(int[] pairs) {
        return Check.desk(Check.join(pairs, PRINT, 0)).run(500, 3);
    }

    /** "No problems and entries" */
    private static void noProblemsAndEntries() {
        Twins.Maker maker = RejudgeHall::new;
        for (int bad = -1; bad < 2; bad++) {
            int told = bad;
            Twins.refused("new: test " + bad, Check.INDEX, maker, hall -> hall.test(told, 0));
            Twins.refused("new: points " + bad, Check.INDEX, maker, hall -> hall.points(told, 0, 0));
            Twins.refused("new: mend " + bad, Check.INDEX, maker, hall -> hall.mend(told, 0));
            Twins.refused("new: answer " + bad, Check.INDEX, maker, hall -> hall.answer(told, 0, 0));
            Twins.refused("new: enter " + bad, Check.INDEX, maker, hall -> hall.enter(0, told));
            Twins.refused("new: rejudge " + bad, Check.INDEX, maker, hall -> hall.rejudge(told));
            Twins.refused("new: entry " + bad, Check.INDEX, maker, hall -> hall.entry(told, 0));
            Twins.refused("new: likeness " + bad, Check.INDEX, maker, hall -> hall.likeness(told, told));
            Twins.refused("new: hack " + bad, Check.INDEX, maker, hall -> hall.hack(0, told));
        }
        RejudgeHall hall = new RejudgeHall();
        Check.due("new: judge", NONE, hall.judge());
        Check.due("new: the first problem", 0, hall.problem(1, 0));
        Check.due("new: the first test", 0, hall.test(0, 0));
        Check.due("new: the first entry", 0, hall.enter(0, 0));
        Check.due("then there is one", NONE, hall.entry(0, 0));
        Check.fails("and no other", Check.INDEX, () -> hall.entry(1, 0));
    }

    /** "the minute 0" */
    private static void theMinuteIs0() {
        RejudgeHall hall = Check.echoHall(1);
        hall.enter(0, 0);
        Check.due("the minute of an entry", 0, hall.entry(0, 6));
        Check.due("one more", 1, hall.pass(1));
        hall.enter(0, 0);
        Check.due("the minute of the next", 1, hall.entry(1, 6));
        Check.due("the first has its minute still", 0, hall.entry(0, 6));
    }

    /** "not frozen" */
    private static void notFrozen() {
        RejudgeHall hall = Check.echoHall(1);
        Check.enterRight(hall, 3, 0);
        hall.pass(1);
        Check.enterRight(hall, 4, 0);
        Check.judgeAll(hall);
        Check.due("of the minute 0", 1, hall.board(3, true, 1));
        Check.due("of the minute 1", 1, hall.board(4, true, 1));
        Check.due("nothing to reveal", NONE, hall.reveal());
    }

    /** "A program has up to 16 instructions" and "Returns how many it has then." */
    private static void upTo16Instructions() {
        for (int sort = READ; sort <= PRINT; sort++) {
            int told = sort;
            RejudgeHall hall = new RejudgeHall();
            for (int i = 1; i <= 16; i++) {
                Check.due("code, sort " + sort + ", the " + i, i, hall.code(sort, 0));
            }
            Check.fails("code, sort " + sort + ", the 17th", Check.STATE, () -> hall.code(told, 0));
            Check.due("still 16", 16, hall.clear());
            Check.due("then there is room", 1, hall.code(sort, 0));
        }
        for (int length = 14; length <= 16; length++) {
            ran("a program of " + length, Check.walk(length), RIGHT, length);
        }
        RejudgeHall hall = Check.desk(Check.walk(16));
        Check.fails("the 17th", Check.STATE, () -> hall.code(JUMP, 0));
        ran("the 16 are as they were", hall, 500, RIGHT, 16, 0);
    }

    /** "each has a number with it, -99 to 99" */
    private static void numbersFromMinus99To99() {
        int[] numbers = {-99, -98, -1, 0, 1, 98, 99};
        for (int number : numbers) {
            Check.due("PUSH " + number, number, printed(new int[] {PUSH, number}));
            for (int sort = READ; sort <= PRINT; sort++) {
                RejudgeHall hall = new RejudgeHall();
                Check.due("code, sort " + sort + ", number " + number, 1, hall.code(sort, number));
            }
            Check.due("of no matter with DUP, MUL and PRINT", 9, Check.desk(
                new int[] {PUSH, 3, DUP, number, MUL, number, PRINT, number}).run(500, 3));
        }
    }

    /** "a row of up to 4 numbers of input, -9 to 9, without any at first" */
    private static void upTo4NumbersOfInput() {
        RejudgeHall hall = new RejudgeHall();
        int[] numbers = {-9, -8, 8, 9};
        Check.code(hall, Check.times(4, READ, 0, PRINT, 0));
        for (int i = 0; i < 4; i++) {
            Check.due("so far it crashes", CRASHED, hall.run(500, 0));
            Check.due("input, the " + i, i + 1, hall.input(numbers[i]));
            Check.due("how many are printed", i + 1, hall.run(500, 2));
        }
        Check.fails("input, the 5th", Check.STATE, () -> hall.input(0));
        for (int i = 0; i < 4; i++) {
            Check.due("the number " + i, numbers[i], hall.run(500, 3 + i));
        }
        Check.due("it ends", RIGHT, hall.run(500, 0));
    }

    /** "Empties the desk, program and input; returns how many instructions there were." */
    private static void clearEmptiesBoth() {
        for (int length = 0; length <= 16; length++) {
            RejudgeHall hall = Check.desk(Check.walk(length), 1, 2, 3, 4);
            Check.due("clear of " + length, length, hall.clear());
            Check.due("clear of none", 0, hall.clear());
            ran("nothing is left", hall, 1, RIGHT, 0, 0);
            Check.due("a first input", 1, hall.input(5));
            Check.due("a first instruction", 1, hall.code(READ, 0));
            hall.code(PRINT, 0);
            Check.due("the new input", 5, hall.run(500, 3));
        }
        RejudgeHall inputAlone = Check.desk(new int[0], 1, 2, 3, 4);
        Check.due("clear of an input alone", 0, inputAlone.clear());
        Check.due("the input is emptied", 1, inputAlone.input(1));
    }

    /** "Runs the program on the desk with the input there, which stay." */
    private static void runLeavesTheDesk() {
        for (int what = 0; what <= 10; what++) {
            int told = what;
            Twins.unchanged("run, what " + what, Twins::busy, hall -> hall.run(500, told));
            Twins.unchanged("run of a full desk, what " + what, Twins::full, hall -> hall.run(1, told));
        }
    }

    /** "A run has a stack and a row of output, both empty, and begins at the instruction 0" */
    private static void eachRunBeginsEmpty() {
        RejudgeHall stack = Check.desk(Check.times(8, PUSH, 5));
        ran("8 on the stack", stack, 500, RIGHT, 8, 0);
        stack.clear();
        stack.code(PRINT, 0);
        ran("the stack is empty", stack, 500, CRASHED, 1, 0);
        RejudgeHall output = Check.desk(Check.times(8, PUSH, 5, PRINT, 0));
        ran("8 numbers", output, 500, RIGHT, 16, 8);
        ran("8 numbers again", output, 500, RIGHT, 16, 8);
        output.clear();
        Check.constant(output, 6);
        ran("1 number", output, 500, RIGHT, 2, 1);
        for (int what = 4; what <= 10; what++) {
            Check.due("nothing is left of the 8", 0, output.run(500, what));
        }
        RejudgeHall input = Check.desk(new int[] {READ, 0, PRINT, 0}, 4, 5);
        Check.due("the first number", 4, input.run(500, 3));
        Check.due("the first number again", 4, input.run(500, 3));
    }

    /** "CRASHED, if something is taken, doubled, or changed that is not there" */
    private static void takesWhatIsThere() {
        int[] sorts = {ADD, SUB, MUL, DUP, SWAP, JZ, PRINT};
        int[] needed = {2, 2, 2, 1, 2, 1, 1};
        for (int i = 0; i < sorts.length; i++) {
            for (int there = 0; there <= 7; there++) {
                int[] pairs = Check.join(Check.times(there, PUSH, 1), sorts[i], 0);
                int end = there >= needed[i] ? RIGHT : CRASHED;
                int output = sorts[i] == PRINT && there > 0 ? 1 : 0;
                ran("sort " + sorts[i] + " with " + there, Check.desk(pairs), 500, end, there + 1, output);
            }
        }
        int[] left = {1, 1, 1, 2, 2, 0, 0};
        for (int i = 0; i < sorts.length; i++) {
            int[] pairs = Check.join(Check.times(needed[i], PUSH, 1), sorts[i], 0);
            for (int more = left[i]; more <= left[i] + 1; more++) {
                int end = more == left[i] ? RIGHT : CRASHED;
                int[] all = Check.join(pairs, Check.times(more, PRINT, 0));
                Check.due("sort " + sorts[i] + " leaves " + left[i] + ", taken " + more, end, Check.desk(all).run(500, 0));
            }
        }
    }

    /** "push what the lower one and it make: sum, lower less upper, product", "SWAP changes the two uppermost" */
    private static void lowerAndUpper() {
        int[][] pairs = {{7, 3, 10, 4, 21}, {3, 7, 10, -4, 21}, {-3, 7, 4, -10, -21}, {0, -9, -9, 9, 0}, {5, 5, 10, 0, 25}};
        for (int[] one : pairs) {
            int[] both = {PUSH, one[0], PUSH, one[1]};
            Check.due("sum", one[2], printed(Check.join(both, ADD, 0)));
            Check.due("lower less upper", one[3], printed(Check.join(both, SUB, 0)));
            Check.due("product", one[4], printed(Check.join(both, MUL, 0)));
            RejudgeHall hall = Check.desk(Check.join(new int[] {PUSH, 8}, Check.join(both, SWAP, 0, PRINT, 0, PRINT, 0, PRINT, 0)));
            Check.due("the lower one is the uppermost", one[0], hall.run(500, 3));
            Check.due("then the upper one", one[1], hall.run(500, 4));
            Check.due("the third stays", 8, hall.run(500, 5));
        }
    }

    /** "JZ takes the uppermost, and goes to the instruction of its number, if that was 0" */
    private static void goesIf0() {
        int[] numbers = {-99, -2, -1, 0, 1, 2, 99};
        for (int number : numbers) {
            int[] pairs = {PUSH, number, JZ, 4, PUSH, 5, PRINT, 0};
            Check.due("JZ of " + number, number == 0 ? 0 : 1, Check.desk(pairs).run(500, 2));
            int[] far = {PUSH, number, JZ, 99};
            ran("JZ of " + number + " to 99", far, number == 0 ? CRASHED : RIGHT, 2);
            int[] below = {PUSH, number, JZ, -1};
            ran("JZ of " + number + " to -1", below, number == 0 ? CRASHED : RIGHT, 2);
        }
    }

    /** "the input has no number more" */
    private static void inputHasNoNumberMore() {
        for (int there = 0; there <= 4; there++) {
            for (int reads = 0; reads <= 6; reads++) {
                RejudgeHall hall = Check.desk(Check.times(reads, READ, 0), new int[there]);
                int end = reads <= there ? RIGHT : CRASHED;
                ran(reads + " of " + there, hall, 500, end, Math.min(reads, there + 1), 0);
            }
        }
    }

    /** "what is made is above 999999" */
    private static void madeAbove999999() {
        Check.due("999999", 999999, printed(GREATEST));
        ran("999999", GREATEST, RIGHT, 9);
        for (int more = -1; more <= 1; more++) {
            int end = more > 0 ? CRASHED : RIGHT;
            ran("999999 and " + more, Check.join(GREATEST, PUSH, more, ADD, 0), end, 11);
            ran("999999 less " + -more, Check.join(GREATEST, PUSH, -more, SUB, 0), end, 11);
        }
        Check.due("999998", 999998, printed(Check.join(GREATEST, PUSH, 1, SUB, 0)));
        ran("999999 by 1", Check.join(GREATEST, PUSH, 1, MUL, 0), RIGHT, 11);
        ran("999999 by 2", Check.join(GREATEST, PUSH, 2, MUL, 0), CRASHED, 11);
        int[] near1000 = {PUSH, 27, PUSH, 37, MUL, 0, DUP, 0};
        Check.due("999 by 1001", 999999, printed(Check.join(near1000, PUSH, 2, ADD, 0, MUL, 0)));
        ran("999 by 1001", Check.join(near1000, PUSH, 2, ADD, 0, MUL, 0), RIGHT, 7);
        ran("1000 by 1000", Check.join(near1000, PUSH, 1, ADD, 0, SWAP, 0, PUSH, 1, ADD, 0, MUL, 0), CRASHED, 10);
        ran("-1000 by -1000", new int[] {PUSH, -10, PUSH, 10, MUL, 0, PUSH, 10, MUL, 0, DUP, 0, MUL, 0}, CRASHED, 7);
    }

    /** "or below -999999" */
    private static void madeBelowMinus999999() {
        Check.due("-999999", -999999, printed(LEAST));
        ran("-999999", LEAST, RIGHT, 9);
        for (int more = -1; more <= 1; more++) {
            int end = more < 0 ? CRASHED : RIGHT;
            ran("-999999 and " + more, Check.join(LEAST, PUSH, more, ADD, 0), end, 11);
            ran("-999999 less " + -more, Check.join(LEAST, PUSH, -more, SUB, 0), end, 11);
        }
        Check.due("-999998", -999998, printed(Check.join(LEAST, PUSH, 1, ADD, 0)));
        ran("-999999 by -1", Check.join(LEAST, PUSH, -1, MUL, 0), RIGHT, 11);
        ran("-999999 by -2", Check.join(LEAST, PUSH, -2, MUL, 0), CRASHED, 11);
        int[] near1000 = {PUSH, 27, PUSH, 37, MUL, 0, DUP, 0};
        Check.due("999 by -1001", -999999,
            printed(Check.join(near1000, PUSH, 2, ADD, 0, PUSH, -1, MUL, 0, MUL, 0)));
        ran("1000 by -1000", new int[] {PUSH, 10, PUSH, 10, MUL, 0, PUSH, 10, MUL, 0, DUP, 0, PUSH, -1, MUL, 0, MUL, 0}, CRASHED, 9);
    }

    /** What is made is looked at as it is, not as what is left of it in an int. */
    private static void madeBeyondInt() {
        int[] twoTo16 = {PUSH, 64, PUSH, 32, MUL, 0, PUSH, 32, MUL, 0};
        Check.due("65536", 65536, printed(twoTo16));
        ran("65536 by 65536, which would be 0", Check.join(twoTo16, DUP, 0, MUL, 0), CRASHED, 7);
        int[] oneMore = Check.join(twoTo16, DUP, 0, PUSH, 1, ADD, 0);
        ran("65536 by 65537, which would be 65536", Check.join(oneMore, MUL, 0), CRASHED, 9);
        ran("999999 by 999999", Check.join(GREATEST, DUP, 0, MUL, 0), CRASHED, 11);
        ran("-999999 by -999999", Check.join(LEAST, DUP, 0, MUL, 0), CRASHED, 11);
        ran("999999 and 999999", Check.join(GREATEST, DUP, 0, ADD, 0), CRASHED, 11);
        ran("-999999 and -999999", Check.join(LEAST, DUP, 0, ADD, 0), CRASHED, 11);
        ran("999999 less 999999", Check.join(GREATEST, DUP, 0, SUB, 0), RIGHT, 11);
    }

    /** "A run ends, when the instruction that comes is the one behind the last", "is not 0 to that behind the last" */
    private static void instructionThatComes() {
        for (int length = 1; length <= 16; length++) {
            for (int to = -1; to <= 18; to++) {
                int[] pairs = Check.walk(length);
                pairs[1] = to;
                String name = "JUMP " + to + " of " + length;
                if (to == 0) {
                    ran(name, pairs, SLOW, 500);
                } else if (to < 0 || to > length) {
                    ran(name, pairs, CRASHED, 1);
                } else {
                    ran(name, pairs, RIGHT, 1 + length - to);
                }
            }
        }
        for (int length = 2; length <= 16; length++) {
            for (int to = length - 1; to <= length + 1; to++) {
                int[] pairs = Check.walk(length);
                System.arraycopy(new int[] {PUSH, 0, JZ, to}, 0, pairs, 0, 4);
                boolean isLoop = length == 2 && to == 1;
                int end = to > length || isLoop ? CRASHED : RIGHT;
                int steps = isLoop ? 3 : to > length ? 2 : 2 + length - to;
                ran("JZ " + to + " of " + length, pairs, end, steps);
            }
            int[] below = Check.walk(length);
            System.arraycopy(new int[] {PUSH, 0, JZ, -1}, 0, below, 0, 4);
            ran("JZ -1 of " + length, below, CRASHED, 2);
            int[] back = Check.walk(length);
            System.arraycopy(new int[] {PUSH, 0, JZ, 0}, 0, back, 0, 4);
            ran("JZ 0 of " + length, back, SLOW, 500);
        }
        ran("far", new int[] {JUMP, 99}, CRASHED, 1);
        ran("far below", new int[] {JUMP, -99}, CRASHED, 1);
        ran("no instructions", new int[0], RIGHT, 0);
    }

    /** "MEMORY, if the stack would have more than 8" */
    private static void stackOf8() {
        for (int there = 6; there <= 8; there++) {
            int end = there == 8 ? MEMORY : RIGHT;
            int[] pairs = Check.times(there, PUSH, 2);
            ran("PUSH onto " + there, Check.join(pairs, PUSH, 2), end, there + 1);
            ran("DUP onto " + there, Check.join(pairs, DUP, 0), end, there + 1);
            ran("READ onto " + there, Check.desk(Check.join(pairs, READ, 0), 1), 500, end, there + 1, 0);
        }
        int[] eight = Check.times(8, PUSH, 2);
        for (int sort : new int[] {ADD, SUB, MUL, SWAP}) {
            ran("sort " + sort + " by 8", Check.join(eight, sort, 0), RIGHT, 9);
        }
        ran("JZ of 8, then one more", Check.join(eight, JZ, 0, PUSH, 1), RIGHT, 10);
        ran("ADD of 8, then one more", Check.join(eight, ADD, 0, PUSH, 1), RIGHT, 10);
        ran("ADD of 8, then two more", Check.join(eight, ADD, 0, PUSH, 1, DUP, 0), MEMORY, 11);
        ran("SWAP of 8, then one more", Check.join(eight, SWAP, 0, PUSH, 1), MEMORY, 10);
    }

    /** "or the output more than 8" */
    private static void outputOf8() {
        int[] eight = {PUSH, 1, DUP, 0, DUP, 0, DUP, 0};
        int[] four = Check.times(4, PRINT, 0);
        RejudgeHall seven = Check.desk(Check.join(Check.join(eight, four), PUSH, 2, DUP, 0, DUP, 0, PRINT, 0, PRINT, 0, PRINT, 0));
        ran("7 numbers", seven, 500, RIGHT, 14, 7);
        RejudgeHall ofEight = Check.desk(Check.times(8, PUSH, 3, PRINT, 0));
        ran("8 numbers", ofEight, 500, RIGHT, 16, 8);
        RejudgeHall ofNine = Check.desk(new int[] {PUSH, 3, PRINT, 0, JUMP, 0});
        ran("9 numbers", ofNine, 500, MEMORY, 26, 8);
        ran("9 numbers, at the limit", ofNine, 26, MEMORY, 26, 8);
        ran("9 numbers, beyond the limit", ofNine, 25, SLOW, 25, 8);
    }

    /** "of several by one step CRASHED first, then MEMORY" */
    private static void crashedFirstThenMemory() {
        int[] eight = Check.times(8, PUSH, 1);
        ran("READ of nothing onto 8", Check.join(eight, READ, 0), CRASHED, 9);
        ran("READ onto 8", Check.desk(Check.join(eight, READ, 0), 1), 500, MEMORY, 9, 0);
        ran("READ beyond the input onto 8", Check.desk(
            Check.join(Check.times(4, READ, 0), Check.join(Check.times(4, PUSH, 1), READ, 0)), 1, 2, 3, 4), 500, CRASHED, 9, 0);
        int[] loop = {PUSH, 1, DUP, 0, PRINT, 0, PRINT, 0, READ, 0, JZ, 0};
        RejudgeHall nothing = Check.desk(Check.join(loop, PRINT, 0), 0, 0, 0, 1);
        ran("PRINT of nothing behind 8 numbers", nothing, 500, CRASHED, 25, 8);
        RejudgeHall one = Check.desk(Check.join(loop, PUSH, 2, PRINT, 0), 0, 0, 0, 1);
        ran("PRINT of something behind 8 numbers", one, 500, MEMORY, 26, 8);
    }

    /** "SLOW, if it would do more steps than the limit" */
    private static void moreStepsThanTheLimit() {
        for (int length = 2; length <= 16; length++) {
            RejudgeHall hall = Check.desk(Check.walk(length));
            ran("one step less than " + length, hall, length - 1, SLOW, length - 1, 0);
            ran("as many steps as " + length, hall, length, RIGHT, length, 0);
            ran("one step more than " + length, hall, length + 1, RIGHT, length, 0);
        }
    }

    /** "1 to 500 steps" */
    private static void limits1To500() {
        ran("no step by 1", new RejudgeHall(), 1, RIGHT, 0, 0);
        ran("one step by 1", Check.desk(Check.walk(1)), 1, RIGHT, 1, 0);
        ran("two steps by 1", Check.desk(Check.walk(2)), 1, SLOW, 1, 0);
        int[] steps495 = Check.countDown(99);
        for (int more = 4; more <= 6; more++) {
            int[] pairs = steps495;
            for (int i = 1; i <= more; i++) {
                pairs = Check.join(pairs, JUMP, 6 + i);
            }
            int steps = Math.min(500, 495 + more);
            ran(495 + more + " steps by 500", Check.desk(pairs), 500, more < 6 ? RIGHT : SLOW, steps, 0);
            ran(495 + more + " steps by 499", Check.desk(pairs), 499, more < 5 ? RIGHT : SLOW, 499, 0);
        }
    }

    /** "A step that fails so is counted; one that would be beyond the limit is not looked at, and not counted." */
    private static void failingStepIsCounted() {
        int[][] programs = {
            {PUSH, 1, PUSH, 1, ADD, 0, ADD, 0},
            {PUSH, 1, PUSH, 1, PRINT, 0, READ, 0},
            {PUSH, 0, PUSH, 1, PRINT, 0, JZ, -1},
            {PUSH, 0, PUSH, 1, PRINT, 0, JUMP, 5},
        };
        for (int i = 0; i < programs.length; i++) {
            int output = i == 0 ? 0 : 1;
            RejudgeHall hall = Check.desk(programs[i]);
            ran("crash, beyond the limit " + i, hall, 3, SLOW, 3, output);
            ran("crash, at the limit " + i, hall, 4, CRASHED, 4, output);
            ran("crash, within the limit " + i, hall, 5, CRASHED, 4, output);
        }
        RejudgeHall memory = Check.desk(Check.times(9, PUSH, 1));
        ran("memory, beyond the limit", memory, 8, SLOW, 8, 0);
        ran("memory, at the limit", memory, 9, MEMORY, 9, 0);
        ran("memory, within the limit", memory, 10, MEMORY, 9, 0);
    }

    /** "3 and k, the number k of it, 0 behind the last one" */
    private static void numberKOfTheOutput() {
        for (int count = 0; count <= 8; count++) {
            int[] pairs = new int[0];
            for (int i = 0; i < count; i++) {
                pairs = Check.join(pairs, PUSH, 11 * i - 44, PRINT, 0);
            }
            RejudgeHall hall = Check.desk(pairs);
            ran(count + " numbers", hall, 500, RIGHT, 2 * count, count);
            for (int k = 0; k < 8; k++) {
                Check.due("number " + k + " of " + count, k < count ? 11 * k - 44 : 0, hall.run(500, 3 + k));
            }
            Check.fails("what 11", Check.ARGUMENT, () -> hall.run(500, 11));
            Check.fails("what -1", Check.ARGUMENT, () -> hall.run(500, -1));
        }
    }

    /** "2 how many numbers the output has, also if it failed" */
    private static void outputOfWhatFailed() {
        int[] two = {PUSH, 7, PRINT, 0, PUSH, 8, PRINT, 0};
        int[][] tails = {{READ, 0}, {JUMP, 4}, {JUMP, 99}, {PUSH, 1, JUMP, 4}};
        int[] ends = {CRASHED, SLOW, CRASHED, MEMORY};
        int[] steps = {5, 500, 5, 4 + 17};
        for (int i = 0; i < tails.length; i++) {
            RejudgeHall hall = Check.desk(Check.join(two, tails[i]));
            ran("failed " + i, hall, 500, ends[i], steps[i], 2);
            Check.due("the first", 7, hall.run(500, 3));
            Check.due("the second", 8, hall.run(500, 4));
            Check.due("behind the last", 0, hall.run(500, 5));
        }
    }

    /** "An object is used for at most 512 calls": the last of them is answered too. */
    private static void fiveHundredAndTwelveCalls() {
        RejudgeHall hall = new RejudgeHall();
        for (int i = 1; i < 512; i++) {
            Check.due("call " + i, i, hall.pass(1));
        }
        Check.due("call 512", 512, hall.pass(1));
    }
}
