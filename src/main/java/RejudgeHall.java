import java.util.ArrayList;
import java.util.Arrays;

/** A hall for contests of programs: see the document that its promises stand in. */
public final class RejudgeHall {
    public static final int NONE = -1;
    public static final int READ = 0, PUSH = 1, ADD = 2, SUB = 3, MUL = 4, DUP = 5, SWAP = 6, JZ = 7, JUMP = 8, PRINT = 9;
    public static final int RIGHT = 0, WRONG = 1, SLOW = 2, MEMORY = 3, CRASHED = 4, SILENT = 5;
    public static final int EXACT = 0, NEAR = 1;

    private static final int MOST_INSTRUCTIONS = 16;
    private static final int MOST_NUMBER = 99;
    private static final int MOST_INPUTS = 4;
    private static final int MOST_INPUT = 9;
    private static final int MOST_IN_ROW = 8;
    private static final int MOST_MADE = 999999;
    private static final int MOST_STEPS = 500;
    private static final int MOST_PROBLEMS = 6;
    private static final int MOST_TESTS = 12;
    private static final int GROUPS = 4;
    private static final int HACK_GROUP = 3;
    private static final int FIRST_POINTS = 25;
    private static final int MOST_POINTS = 100;
    private static final int TEAMS = 8;
    private static final int MOST_ENTRIES = 60;
    private static final int MOST_PASSING = 300;
    private static final int LAST_MINUTE = 9999;
    private static final int TRY_PENALTY = 20;
    private static final int FIRST_OUTPUT = 3;

    private final Program deskProgram = new Program();
    private final Row deskInput = new Row();
    private final Machine machine = new Machine();
    private final ArrayList<Problem> problems = new ArrayList<Problem>();
    private final ArrayList<Entry> entries = new ArrayList<Entry>();
    private final Standings standings = new Standings();
    private final int[] judgings = new int[TEAMS];
    private final int[] hacks = new int[TEAMS];
    private final boolean[] revealed = new boolean[TEAMS * MOST_PROBLEMS];
    private final int[] commonRow = new int[MOST_INSTRUCTIONS + 1];
    private int minute = 0;
    private int frozenFrom = NONE;

    public RejudgeHall() {
    }

    // ---- the desk

    public int code(int sort, int number) throws IllegalArgumentException, IllegalStateException {
        needRange(sort, READ, PRINT);
        needRange(number, -MOST_NUMBER, MOST_NUMBER);
        if (deskProgram.length >= MOST_INSTRUCTIONS) {
            throw new IllegalStateException("the program has 16 instructions");
        }
        deskProgram.append(sort, number);
        return deskProgram.length;
    }

    public int input(int number) throws IllegalArgumentException, IllegalStateException {
        needRange(number, -MOST_INPUT, MOST_INPUT);
        if (deskInput.length >= MOST_INPUTS) {
            throw new IllegalStateException("the input has 4 numbers");
        }
        deskInput.push(number);
        return deskInput.length;
    }

    public int clear() {
        int length = deskProgram.length;
        deskProgram.length = 0;
        deskInput.length = 0;
        return length;
    }

    public int run(int limit, int what) throws IllegalArgumentException {
        needRange(limit, 1, MOST_STEPS);
        needRange(what, 0, FIRST_OUTPUT + MOST_IN_ROW - 1);
        int end = machine.execute(deskProgram, deskInput, limit);
        switch (what) {
            case 0:
                return end;
            case 1:
                return machine.steps;
            case 2:
                return machine.output.length;
            default:
                return machine.output.at(what - FIRST_OUTPUT);
        }
    }

    // ---- problems

    public int problem(int limit, int checker) throws IllegalArgumentException, IllegalStateException {
        needRange(limit, 1, MOST_STEPS);
        needRange(checker, EXACT, NEAR);
        if (problems.size() >= MOST_PROBLEMS) {
            throw new IllegalStateException("there are 6 problems");
        }
        Problem made = new Problem(problems.size(), limit, checker);
        made.solution.takeFrom(deskProgram);
        problems.add(made);
        return made.number;
    }

    public int test(int problem, int group) throws IndexOutOfBoundsException, IllegalStateException {
        Problem asked = problemAt(problem);
        needIndex(group, GROUPS);
        if (asked.trials.size() >= MOST_TESTS) {
            throw new IllegalStateException("the problem has 12 tests");
        }
        if (!findsAnswer(asked.solution, deskInput)) {
            throw new IllegalStateException("the solution has no answer");
        }
        asked.addTrial(new Trial(deskInput, machine.output, group));
        deskInput.length = 0;
        return asked.trials.size() - 1;
    }

    public int points(int problem, int group, int points) throws IndexOutOfBoundsException, IllegalArgumentException {
        Problem asked = problemAt(problem);
        needIndex(group, GROUPS);
        needRange(points, 0, MOST_POINTS);
        int before = asked.points[group];
        asked.points[group] = points;
        return before;
    }

    public int mend(int problem, int checker) throws IndexOutOfBoundsException, IllegalArgumentException, IllegalStateException {
        Problem asked = problemAt(problem);
        needRange(checker, EXACT, NEAR);
        if (deskProgram.length > 0) {
            if (!findsAllAnswers(asked, deskProgram)) {
                throw new IllegalStateException("a test would have no answer");
            }
            asked.solution.takeFrom(deskProgram);
            renewAnswers(asked);
        }
        asked.checker = checker;
        asked.version++;
        return asked.version;
    }

    public int answer(int problem, int test, int place) throws IndexOutOfBoundsException {
        Problem asked = problemAt(problem);
        needIndex(test, asked.trials.size());
        if (place < 0) {
            throw new IndexOutOfBoundsException("the place is below 0");
        }
        return asked.trials.get(test).answer.at(place);
    }

    // ---- entries

    public int enter(int team, int problem) throws IndexOutOfBoundsException, IllegalStateException {
        needIndex(team, TEAMS);
        Problem asked = problemAt(problem);
        if (entries.size() >= MOST_ENTRIES) {
            throw new IllegalStateException("there are 60 entries");
        }
        Entry made = new Entry(team, asked, minute);
        made.program.takeFrom(deskProgram);
        entries.add(made);
        return entries.size() - 1;
    }

    public int pass(int minutes) throws IllegalArgumentException, IllegalStateException {
        needRange(minutes, 1, MOST_PASSING);
        if (minute + minutes > LAST_MINUTE) {
            throw new IllegalStateException("the minute would be above 9999");
        }
        minute += minutes;
        return minute;
    }

    public int judge() {
        int chosen = NONE;
        int fewest = 0;
        for (int i = 0; i < entries.size(); i++) {
            Entry looked = entries.get(i);
            if (looked.waits() && (chosen == NONE || judgings[looked.team] < fewest)) {
                chosen = i;
                fewest = judgings[looked.team];
            }
        }
        if (chosen != NONE) {
            giveVerdict(entries.get(chosen));
        }
        return chosen;
    }

    public int rejudge(int problem) throws IndexOutOfBoundsException {
        Problem asked = problemAt(problem);
        int count = 0;
        for (int i = 0; i < entries.size(); i++) {
            Entry looked = entries.get(i);
            if (looked.problem.number == asked.number && !looked.waits() && looked.version != asked.version) {
                looked.letWait();
                count++;
            }
        }
        return count;
    }

    public int entry(int entry, int what) throws IndexOutOfBoundsException, IllegalArgumentException {
        Entry asked = entryAt(entry);
        needRange(what, 0, 6);
        switch (what) {
            case 0:
                return asked.verdict;
            case 1:
                return asked.failedTest;
            case 2:
                return asked.score;
            case 3:
                return asked.version;
            case 4:
                return asked.team;
            case 5:
                return asked.problem.number;
            default:
                return asked.minute;
        }
    }

    public int likeness(int entry, int other) throws IndexOutOfBoundsException {
        Program one = entryAt(entry).program;
        Program two = entryAt(other).program;
        int longer = Math.max(one.length, two.length);
        if (longer <= 0) {
            return 100;
        }
        return 100 * longestCommon(one, two) / longer;
    }

    // ---- boards

    public void freeze(int minute) throws IllegalArgumentException {
        needRange(minute, NONE, LAST_MINUTE);
        frozenFrom = minute;
        for (int i = 0; i < revealed.length; i++) {
            revealed[i] = false;
        }
    }

    public int reveal() {
        if (frozenFrom == NONE) {
            return NONE;
        }
        countVerdicts(true);
        int last = NONE;
        for (int team = 0; team < TEAMS; team++) {
            if (lowestHidden(team) != NONE && (last == NONE || standings.isAhead(last, team))) {
                last = team;
            }
        }
        if (last == NONE) {
            return NONE;
        }
        int problem = lowestHidden(last);
        revealed[pairOf(last, problem)] = true;
        return 10 * last + problem;
    }

    public int board(int team, boolean isFrozen, int what) throws IndexOutOfBoundsException, IllegalArgumentException {
        needIndex(team, TEAMS);
        needRange(what, 0, 4);
        if (what == 4) {
            return hacks[team];
        }
        countVerdicts(isFrozen);
        switch (what) {
            case 0:
                return standings.placeOf(team);
            case 1:
                return standings.solved[team];
            case 2:
                return standings.sums[team];
            default:
                return standings.latest[team];
        }
    }

    public int placeAnew(int team) throws IndexOutOfBoundsException {
        needIndex(team, TEAMS);
        standings.wipe();
        for (int i = 0; i < entries.size(); i++) {
            Entry looked = entries.get(i);
            standings.count(looked, passesAll(looked));
        }
        return standings.placeOf(team);
    }

    // ---- hacks

    public boolean hack(int team, int entry) throws IndexOutOfBoundsException, IllegalStateException {
        needIndex(team, TEAMS);
        Entry asked = entryAt(entry);
        Problem hacked = asked.problem;
        if (!hasSolved(team, hacked)) {
            throw new IllegalStateException("the team did not solve the problem");
        }
        if (asked.team == team || asked.verdict != RIGHT) {
            throw new IllegalStateException("the entry is its own, or not RIGHT");
        }
        if (hacked.trials.size() >= MOST_TESTS || !findsAnswer(hacked.solution, deskInput)) {
            throw new IllegalStateException("the input can't be a test");
        }
        Trial trial = new Trial(deskInput, machine.output, HACK_GROUP);
        deskInput.length = 0;
        if (tryOut(asked, trial) == RIGHT) {
            hacks[team]--;
            return false;
        }
        hacked.addTrial(trial);
        giveVerdict(asked);
        hacks[team]++;
        return true;
    }

    // ---- what the calls are made of

    private static void needRange(int value, int least, int most) {
        if (value < least || value > most) {
            throw new IllegalArgumentException("an argument is out of range");
        }
    }

    private static void needIndex(int index, int count) {
        if (index < 0 || index >= count) {
            throw new IndexOutOfBoundsException("there is no such number");
        }
    }

    private Problem problemAt(int problem) {
        needIndex(problem, problems.size());
        return problems.get(problem);
    }

    private Entry entryAt(int entry) {
        needIndex(entry, entries.size());
        return entries.get(entry);
    }

    /** Leaves the answer in the machine's output, if there is one. */
    private boolean findsAnswer(Program solution, Row input) {
        return machine.execute(solution, input, MOST_STEPS) == RIGHT;
    }

    private boolean findsAllAnswers(Problem problem, Program solution) {
        for (int i = 0; i < problem.trials.size(); i++) {
            if (!findsAnswer(solution, problem.trials.get(i).input)) {
                return false;
            }
        }
        return true;
    }

    private void renewAnswers(Problem problem) {
        for (int i = 0; i < problem.trials.size(); i++) {
            Trial trial = problem.trials.get(i);
            if (findsAnswer(problem.solution, trial.input)) {
                trial.answer.copyFrom(machine.output);
            }
        }
    }

    /** The verdict that an entry has by one test alone. */
    private int tryOut(Entry entry, Trial trial) {
        int end = machine.execute(entry.program, trial.input, entry.problem.limit);
        if (end != RIGHT) {
            return end;
        }
        int allowed = entry.problem.checker == NEAR ? 1 : 0;
        if (machine.output.isWithin(allowed, trial.answer)) {
            return RIGHT;
        }
        return machine.output.length == 0 && trial.answer.length > 0 ? SILENT : WRONG;
    }

    private boolean passesAll(Entry entry) {
        ArrayList<Trial> trials = entry.problem.trials;
        for (int i = 0; i < trials.size(); i++) {
            if (tryOut(entry, trials.get(i)) != RIGHT) {
                return false;
            }
        }
        return true;
    }

    private void giveVerdict(Entry entry) {
        ArrayList<Trial> trials = entry.problem.trials;
        int groupsMet = 0;
        int groupsFailed = 0;
        entry.verdict = RIGHT;
        entry.failedTest = NONE;
        for (int i = 0; i < trials.size(); i++) {
            Trial trial = trials.get(i);
            int verdict = tryOut(entry, trial);
            groupsMet |= 1 << trial.group;
            if (verdict != RIGHT) {
                groupsFailed |= 1 << trial.group;
                if (entry.failedTest == NONE) {
                    entry.verdict = verdict;
                    entry.failedTest = i;
                }
            }
        }
        entry.score = entry.problem.pointsOf(groupsMet & ~groupsFailed);
        entry.version = entry.problem.version;
        judgings[entry.team]++;
    }

    private boolean hasSolved(int team, Problem problem) {
        for (int i = 0; i < entries.size(); i++) {
            Entry looked = entries.get(i);
            if (looked.team == team && looked.problem.number == problem.number && looked.verdict == RIGHT) {
                return true;
            }
        }
        return false;
    }

    private int longestCommon(Program one, Program two) {
        Arrays.fill(commonRow, 0);
        for (int i = 0; i < one.length; i++) {
            int diagonal = 0;
            for (int j = 0; j < two.length && j + 1 < commonRow.length; j++) {
                int above = commonRow[j + 1];
                if (one.isAlikeAt(i, two, j)) {
                    commonRow[j + 1] = diagonal + 1;
                } else {
                    commonRow[j + 1] = Math.max(above, commonRow[j]);
                }
                diagonal = above;
            }
        }
        return commonRow[Math.min(two.length, MOST_INSTRUCTIONS)];
    }

    private static int pairOf(int team, int problem) {
        return team * MOST_PROBLEMS + problem;
    }

    /** Whether the freezing alone would keep an entry off the board. */
    private boolean isLate(Entry entry) {
        return frozenFrom != NONE && entry.minute >= frozenFrom;
    }

    private boolean isHidden(Entry entry) {
        return isLate(entry) && !revealed[pairOf(entry.team, entry.problem.number)];
    }

    private void countVerdicts(boolean isFrozen) {
        standings.wipe();
        for (int i = 0; i < entries.size(); i++) {
            Entry looked = entries.get(i);
            if (!looked.waits() && !(isFrozen && isHidden(looked))) {
                standings.count(looked, looked.verdict == RIGHT);
            }
        }
    }

    /** The lowest problem of a team that could be revealed, or NONE. */
    private int lowestHidden(int team) {
        int lowest = NONE;
        for (int i = 0; i < entries.size(); i++) {
            Entry looked = entries.get(i);
            if (looked.team == team && !looked.waits() && isHidden(looked)) {
                int number = looked.problem.number;
                lowest = lowest == NONE ? number : Math.min(lowest, number);
            }
        }
        return lowest;
    }

    /** Instructions in order; the desk's are taken by what is made of them. */
    private static final class Program {
        private final int[] sorts = new int[MOST_INSTRUCTIONS];
        private final int[] numbers = new int[MOST_INSTRUCTIONS];
        private int length = 0;

        private void append(int sort, int number) {
            if (length >= 0 && length < MOST_INSTRUCTIONS) {
                sorts[length] = sort;
                numbers[length] = number;
                length++;
            }
        }

        private void takeFrom(Program desk) {
            System.arraycopy(desk.sorts, 0, sorts, 0, MOST_INSTRUCTIONS);
            System.arraycopy(desk.numbers, 0, numbers, 0, MOST_INSTRUCTIONS);
            length = desk.length;
            desk.length = 0;
        }

        private boolean has(int place) {
            return place >= 0 && place < length && place < MOST_INSTRUCTIONS;
        }

        private boolean isAlikeAt(int place, Program other, int otherPlace) {
            if (!has(place) || !other.has(otherPlace) || sorts[place] != other.sorts[otherPlace]) {
                return false;
            }
            boolean goes = sorts[place] == JZ || sorts[place] == JUMP;
            return !goes || numbers[place] == other.numbers[otherPlace];
        }
    }

    /** A short row of numbers: input, output, answer, or a stack whose uppermost is the last. */
    private static final class Row {
        private final int[] numbers = new int[MOST_IN_ROW];
        private int length = 0;

        private boolean isFull() {
            return length >= MOST_IN_ROW;
        }

        private void push(int number) {
            if (length >= 0 && length < MOST_IN_ROW) {
                numbers[length] = number;
                length++;
            }
        }

        private int pop() {
            if (length <= 0 || length > MOST_IN_ROW) {
                return 0;
            }
            length--;
            return numbers[length];
        }

        private int at(int place) {
            return place >= 0 && place < length && place < MOST_IN_ROW ? numbers[place] : 0;
        }

        private void copyFrom(Row other) {
            System.arraycopy(other.numbers, 0, numbers, 0, MOST_IN_ROW);
            length = other.length;
        }

        private boolean isWithin(int allowed, Row other) {
            if (length != other.length) {
                return false;
            }
            for (int i = 0; i < length; i++) {
                if (Math.abs(at(i) - other.at(i)) > allowed) {
                    return false;
                }
            }
            return true;
        }
    }

    /** Runs programs; stack, output and steps of the last run stay to be looked at. */
    private static final class Machine {
        private final Row stack = new Row();
        private final Row output = new Row();
        private int steps = 0;
        private int next = 0;
        private int inputsRead = 0;

        private int execute(Program program, Row input, int limit) {
            stack.length = 0;
            output.length = 0;
            steps = 0;
            next = 0;
            inputsRead = 0;
            while (next != program.length && steps < limit) {
                steps++;
                int failure = step(program, input);
                if (failure != RIGHT) {
                    return failure;
                }
            }
            return next == program.length ? RIGHT : SLOW;
        }

        private int step(Program program, Row input) {
            if (!program.has(next)) {
                return CRASHED;
            }
            int sort = program.sorts[next];
            int number = program.numbers[next];
            next++;
            switch (sort) {
                case READ:
                    return inputsRead < input.length ? put(input.at(inputsRead++)) : CRASHED;
                case PUSH:
                    return put(number);
                case ADD:
                case SUB:
                case MUL:
                    return make(sort);
                case DUP:
                    return stack.length < 1 ? CRASHED : put(stack.at(stack.length - 1));
                case SWAP:
                    return swap();
                case JZ:
                    return goIfZero(number, program.length);
                case JUMP:
                    return goTo(number, program.length);
                default:
                    return print();
            }
        }

        private int put(int number) {
            if (stack.isFull()) {
                return MEMORY;
            }
            stack.push(number);
            return RIGHT;
        }

        private int make(int sort) {
            if (stack.length < 2) {
                return CRASHED;
            }
            long upper = stack.pop();
            long lower = stack.pop();
            long made = sort == ADD ? lower + upper : sort == SUB ? lower - upper : lower * upper;
            if (made > MOST_MADE || made < -MOST_MADE) {
                return CRASHED;
            }
            stack.push((int) made);
            return RIGHT;
        }

        private int swap() {
            if (stack.length < 2) {
                return CRASHED;
            }
            int upper = stack.pop();
            int lower = stack.pop();
            stack.push(upper);
            stack.push(lower);
            return RIGHT;
        }

        private int goIfZero(int number, int behindLast) {
            if (stack.length < 1) {
                return CRASHED;
            }
            return stack.pop() == 0 ? goTo(number, behindLast) : RIGHT;
        }

        private int goTo(int number, int behindLast) {
            if (number < 0 || number > behindLast) {
                return CRASHED;
            }
            next = number;
            return RIGHT;
        }

        private int print() {
            if (stack.length < 1) {
                return CRASHED;
            }
            if (output.isFull()) {
                return MEMORY;
            }
            output.push(stack.pop());
            return RIGHT;
        }
    }

    /** A test of a problem; "test" itself is the name of a call. */
    private static final class Trial {
        private final Row input = new Row();
        private final Row answer = new Row();
        private final int group;

        private Trial(Row input, Row answer, int group) {
            this.input.copyFrom(input);
            this.answer.copyFrom(answer);
            this.group = group;
        }
    }

    private static final class Problem {
        private final int number;
        private final int limit;
        private final Program solution = new Program();
        private final ArrayList<Trial> trials = new ArrayList<Trial>();
        private final int[] points = new int[GROUPS];
        private int checker;
        private int version = 0;

        private Problem(int number, int limit, int checker) {
            this.number = number;
            this.limit = limit;
            this.checker = checker;
            Arrays.fill(points, FIRST_POINTS);
        }

        private void addTrial(Trial trial) {
            trials.add(trial);
            version++;
        }

        private int pointsOf(int groups) {
            int sum = 0;
            for (int group = 0; group < GROUPS; group++) {
                if ((groups >> group & 1) != 0) {
                    sum += points[group];
                }
            }
            return sum;
        }
    }

    private static final class Entry {
        private final int team;
        private final Problem problem;
        private final int minute;
        private final Program program = new Program();
        private int verdict = NONE;
        private int failedTest = NONE;
        private int score = 0;
        private int version = NONE;

        private Entry(int team, Problem problem, int minute) {
            this.team = team;
            this.problem = problem;
            this.minute = minute;
        }

        private boolean waits() {
            return verdict == NONE;
        }

        private void letWait() {
            verdict = NONE;
            failedTest = NONE;
            score = 0;
            version = NONE;
        }
    }

    /** What the teams have on one board; entries are counted into it in the order of their numbers. */
    private static final class Standings {
        private final int[] solved = new int[TEAMS];
        private final int[] sums = new int[TEAMS];
        private final int[] latest = new int[TEAMS];
        private final int[] tries = new int[TEAMS * MOST_PROBLEMS];
        private final boolean[] isSolved = new boolean[TEAMS * MOST_PROBLEMS];

        private void wipe() {
            Arrays.fill(solved, 0);
            Arrays.fill(sums, 0);
            Arrays.fill(latest, 0);
            Arrays.fill(tries, 0);
            for (int i = 0; i < isSolved.length; i++) {
                isSolved[i] = false;
            }
        }

        private void count(Entry entry, boolean isRight) {
            int pair = pairOf(entry.team, entry.problem.number);
            if (isSolved[pair]) {
                return;
            }
            if (!isRight) {
                tries[pair]++;
                return;
            }
            isSolved[pair] = true;
            solved[entry.team]++;
            sums[entry.team] += entry.minute + TRY_PENALTY * tries[pair];
            latest[entry.team] = Math.max(latest[entry.team], entry.minute);
        }

        private boolean isAhead(int team, int other) {
            if (solved[team] != solved[other]) {
                return solved[team] > solved[other];
            }
            if (sums[team] != sums[other]) {
                return sums[team] < sums[other];
            }
            if (latest[team] != latest[other]) {
                return latest[team] < latest[other];
            }
            return team < other;
        }

        private int placeOf(int team) {
            int place = 0;
            for (int other = 0; other < TEAMS; other++) {
                if (isAhead(other, team)) {
                    place++;
                }
            }
            return place;
        }
    }
}
