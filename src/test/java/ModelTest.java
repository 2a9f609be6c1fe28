import java.util.Random;
import java.util.function.IntSupplier;

/** Runs of 512 calls, made by the rule of a seed, on a hall and on the model: the answers are the same. */
public final class ModelTest {
    private static final int RUNS = 1500;
    private static final int CALLS = 512;
    private static final int ECHO = 0, SUM = 1, LOOP = 2, FIXED = 3;

    private final Random random;
    private final RejudgeHall hall = new RejudgeHall();
    private final Model model = new Model();
    private final int style;
    private final boolean asksAtTheEnd;
    private final StringBuilder told = new StringBuilder();
    private int calls = 0;
    private int problems = 0;
    private int entries = 0;
    private boolean isWrong = false;

    private ModelTest(int seed) {
        random = new Random(seed);
        style = seed % 5;
        asksAtTheEnd = seed / 5 % 2 == 0;
    }

    public static void main(String[] args) {
        int[] seen = new int[17];
        for (int seed = 0; seed < RUNS; seed++) {
            ModelTest run = new ModelTest(seed);
            run.go(seen);
            if (run.isWrong) {
                System.out.println("seed " + seed + ":\n" + run.told);
                System.exit(1);
            }
        }
        for (int i = 0; i < seen.length; i++) {
            Check.due("kind of call met " + i, true, seen[i] > 0);
        }
        Check.end();
    }

    private static int caught(IntSupplier call) {
        try {
            return call.getAsInt();
        } catch (RuntimeException e) {
            if (!Check.isOwn(e)) {
                return -2000000;
            }
            return e instanceof IndexOutOfBoundsException ? Model.INDEX
                : e instanceof IllegalArgumentException ? Model.ARGUMENT : Model.STATE;
        }
    }

    private int same(String call, IntSupplier ofHall, IntSupplier ofModel) {
        if (isWrong || calls >= CALLS) {
            return Model.STATE;
        }
        calls++;
        int want = ofModel.getAsInt();
        int got = caught(ofHall);
        told.append(call).append(" = ").append(got).append('\n');
        if (got != want) {
            told.append("due is ").append(want).append('\n');
            isWrong = true;
        }
        return want;
    }

    private int upTo(int most) {
        return random.nextInt(most + 1);
    }

    /** Mostly in the range; now and then at or beyond its edges. */
    private int within(int least, int most) {
        int kind = random.nextInt(60);
        int[] edges = {least - 1, most + 1, Integer.MIN_VALUE, Integer.MAX_VALUE, least, most};
        return kind < edges.length && (kind < 2 || random.nextInt(3) == 0) ? edges[kind] : least + upTo(most - least);
    }

    private int team() {
        return within(0, style == 0 ? 2 : 7);
    }

    private int problem() {
        return random.nextInt(30) == 0 ? within(0, 5) : upTo(Math.max(0, problems - 1));
    }

    private int entry() {
        return random.nextInt(30) == 0 ? within(0, entries) : upTo(Math.max(0, entries - 1));
    }

    private void code(int sort, int number) {
        same("code(" + sort + ", " + number + ")", () -> hall.code(sort, number), () -> model.code(sort, number));
    }

    private void code(int... pairs) {
        for (int i = 0; i < pairs.length; i += 2) {
            code(pairs[i], pairs[i + 1]);
        }
    }

    private void program() {
        if (random.nextInt(8) == 0) {
            clear();
        }
        switch (random.nextInt(5)) {
            case ECHO -> code(0, 0, 9, 0);
            case SUM -> code(0, upTo(1), 0, 0, 2 + upTo(2), 0, 9, 0);
            case LOOP -> code(0, 0, 5, 0, 9, 0, 1, 1, 3, 0, 5, 0, 7, 8, 8, 1);
            case FIXED -> code(1, upTo(4), 9, 0);
            default -> anyProgram();
        }
    }

    private void anyProgram() {
        int length = upTo(10);
        for (int i = 0; i < length; i++) {
            int sort = random.nextInt(10);
            boolean goes = sort == 7 || sort == 8;
            code(sort, goes ? upTo(length) : random.nextInt(5) == 0 ? within(-99, 99) : upTo(3));
        }
    }

    private void input() {
        int count = 1 + upTo(1);
        for (int i = 0; i < count; i++) {
            int number = random.nextInt(3) == 0 ? within(-9, 9) : upTo(4);
            same("input(" + number + ")", () -> hall.input(number), () -> model.input(number));
        }
    }

    private void clear() {
        same("clear()", hall::clear, model::clear);
    }

    private void runDesk() {
        int limit = within(1, 500);
        int what = within(0, 10);
        same("run(" + limit + ", " + what + ")", () -> hall.run(limit, what), () -> model.run(limit, what));
    }

    private void makeProblem() {
        program();
        int limit = within(1, style == 1 ? 500 : 30);
        int checker = within(0, 1);
        int made = same("problem(" + limit + ", " + checker + ")", () -> hall.problem(limit, checker),
            () -> model.problem(limit, checker));
        problems = Math.max(problems, made + 1);
    }

    private void makeTest() {
        input();
        int problem = problem();
        int group = within(0, 3);
        same("test(" + problem + ", " + group + ")", () -> hall.test(problem, group), () -> model.test(problem, group));
    }

    private void enter() {
        program();
        int team = team();
        int problem = problem();
        int made = same("enter(" + team + ", " + problem + ")", () -> hall.enter(team, problem),
            () -> model.enter(team, problem));
        entries = Math.max(entries, made + 1);
    }

    private void hack() {
        input();
        for (int i = upTo(3); i >= 0; i--) {
            int team = team();
            int entry = entry();
            same("hack(" + team + ", " + entry + ")", () -> hall.hack(team, entry) ? 1 : 0,
                () -> model.hack(team, entry));
        }
    }

    private void mend() {
        if (upTo(1) == 0) {
            program();
        }
        int problem = problem();
        int checker = within(0, 1);
        same("mend(" + problem + ", " + checker + ")", () -> hall.mend(problem, checker),
            () -> model.mend(problem, checker));
    }

    private void freeze() {
        int minute = upTo(3) == 0 ? within(-1, 9999) : upTo(60);
        same("freeze(" + minute + ")", () -> {
            hall.freeze(minute);
            return 0;
        }, () -> model.freeze(minute));
    }

    private void ask(int kind) {
        int one = kind == 3 ? entry() : problem();
        int two = within(0, kind == 0 ? 3 : kind == 4 ? 4 : 6);
        int three = within(0, 100);
        int other = entry();
        int team = team();
        boolean isFrozen = upTo(1) == 0;
        switch (kind) {
            case 0 -> same("points(" + one + ", " + two + ", " + three + ")",
                () -> hall.points(one, two, three), () -> model.points(one, two, three));
            case 1 -> same("answer(" + one + ", " + two + ", " + three % 9 + ")",
                () -> hall.answer(one, two, three % 9), () -> model.answer(one, two, three % 9));
            case 2 -> same("entry(" + other + ", " + two + ")",
                () -> hall.entry(other, two), () -> model.entry(other, two));
            case 3 -> same("likeness(" + one + ", " + other + ")",
                () -> hall.likeness(one, other), () -> model.likeness(one, other));
            case 4 -> same("board(" + team + ", " + isFrozen + ", " + two + ")",
                () -> hall.board(team, isFrozen, two), () -> model.board(team, isFrozen, two));
            default -> same("placeAnew(" + team + ")", () -> hall.placeAnew(team), () -> model.placeAnew(team));
        }
    }

    private void rejudge() {
        int problem = problem();
        same("rejudge(" + problem + ")", () -> hall.rejudge(problem), () -> model.rejudge(problem));
    }

    private void pass() {
        int minutes = style == 2 ? within(1, 300) : within(1, 20);
        same("pass(" + minutes + ")", () -> hall.pass(minutes), () -> model.pass(minutes));
    }

    private void judge() {
        for (int i = upTo(4); i >= 0; i--) {
            same("judge()", hall::judge, model::judge);
        }
    }

    /** The state, as far as it can be asked for without another change, and by the calls that are left. */
    private void askAll() {
        for (int entry = 0; entry < entries; entry++) {
            int asked = entry;
            for (int what = 0; what < 7; what++) {
                int told = what;
                same("entry(" + asked + ", " + told + ")", () -> hall.entry(asked, told),
                    () -> model.entry(asked, told));
            }
        }
        for (int i = 0; i < 80; i++) {
            int team = i / 2 % 8;
            boolean isFrozen = i % 2 == 0;
            int what = i / 16;
            same("board(" + team + ", " + isFrozen + ", " + what + ")", () -> hall.board(team, isFrozen, what),
                () -> model.board(team, isFrozen, what));
        }
        for (int i = 0; i < 8; i++) {
            int team = i;
            same("placeAnew(" + team + ")", () -> hall.placeAnew(team), () -> model.placeAnew(team));
        }
    }

    /** Every other run leaves some calls to ask for the state at its end. */
    private void go(int[] seen) {
        int most = asksAtTheEnd ? CALLS / 2 : CALLS;
        int[] weights = {
            0, 0, 0, 1, 1, 1, 1, 2, 2, 2, 2, 2, 2, 2, 2, 3, 3, 3, 3, 4, 4, 4, 5, 5, 6, 7, 8, 8, 9, 10,
            11, 12, 13, 13, 14, 14, 14, 15, 16};
        while (calls < most && !isWrong) {
            int kind = weights[random.nextInt(weights.length)];
            seen[kind]++;
            switch (kind) {
                case 0 -> makeProblem();
                case 1 -> makeTest();
                case 2 -> enter();
                case 3 -> judge();
                case 4 -> hack();
                case 5 -> pass();
                case 6 -> mend();
                case 7 -> freeze();
                case 8 -> same("reveal()", hall::reveal, model::reveal);
                case 9 -> rejudge();
                case 10 -> runDesk();
                default -> ask(kind - 11);
            }
        }
        askAll();
    }
}
