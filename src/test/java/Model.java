import java.util.ArrayList;
import java.util.Comparator;
import java.util.List;
import java.util.stream.Collectors;

/**
 * The document once more, written for reading: it remembers what was told, and works all else out at each call.
 * Exceptions are answers here, far from every other answer.
 */
final class Model {
    static final int INDEX = -1000001, ARGUMENT = -1000002, STATE = -1000003;

    private record Instruction(int sort, int number) {
        boolean isLike(Instruction other) {
            return sort == other.sort && (number == other.number || sort != 7 && sort != 8);
        }
    }

    private record Result(int end, int steps, List<Integer> output) {
    }

    private record Trial(List<Integer> input, int group) {
    }

    private static final class Problem {
        List<Instruction> solution;
        int limit;
        int checker;
        int mendings = 0;
        final List<Trial> trials = new ArrayList<>();
        final int[] points = {25, 25, 25, 25};

        int version() {
            return mendings + trials.size();
        }
    }

    private record Verdict(int kind, int failed, int score, int version) {
    }

    private static final class Entry {
        int number;
        int team;
        int problem;
        int minute;
        List<Instruction> program;
        Verdict verdict = null;
    }

    private record Counted(int team, int problem, int minute, boolean isRight) {
    }

    private record Line(int team, int solved, int sum, int latest) {
    }

    private List<Instruction> program = new ArrayList<>();
    private List<Integer> input = new ArrayList<>();
    private final List<Problem> problems = new ArrayList<>();
    private final List<Entry> entries = new ArrayList<>();
    private final List<Integer> judgedTeams = new ArrayList<>();
    private final int[] hacks = new int[8];
    private final List<Integer> revealed = new ArrayList<>();
    private int minute = 0;
    private int frozen = -1;

    private static boolean out(int value, int least, int most) {
        return value < least || value > most;
    }

    private static Result run(List<Instruction> program, List<Integer> input, int limit) {
        List<Integer> stack = new ArrayList<>();
        List<Integer> output = new ArrayList<>();
        int at = 0;
        int read = 0;
        for (int steps = 0;; steps++) {
            if (at == program.size()) {
                return new Result(0, steps, output);
            }
            if (steps == limit) {
                return new Result(2, steps, output);
            }
            Instruction now = program.get(at++);
            int needed = new int[] {0, 0, 2, 2, 2, 1, 2, 1, 0, 1}[now.sort];
            boolean crashes = stack.size() < needed || now.sort == 0 && read == input.size();
            if (crashes) {
                return new Result(4, steps + 1, output);
            }
            int top = needed > 0 ? stack.get(stack.size() - 1) : 0;
            int below = needed > 1 ? stack.get(stack.size() - 2) : 0;
            boolean keepsTop = now.sort == 5;
            for (int i = 0; i < needed && !keepsTop; i++) {
                stack.remove(stack.size() - 1);
            }
            long made = 0;
            switch (now.sort) {
                case 0 -> stack.add(input.get(read++));
                case 1 -> stack.add(now.number);
                case 2 -> made = (long) below + top;
                case 3 -> made = (long) below - top;
                case 4 -> made = (long) below * top;
                case 5 -> stack.add(top);
                case 6 -> stack.addAll(List.of(top, below));
                case 7 -> at = top == 0 ? now.number : at;
                case 8 -> at = now.number;
                default -> output.add(top);
            }
            if (now.sort >= 2 && now.sort <= 4) {
                stack.add((int) made);
            }
            if (Math.abs(made) > 999999 || at < 0 || at > program.size()) {
                return new Result(4, steps + 1, output);
            }
            if (stack.size() > 8 || output.size() > 8) {
                return new Result(3, steps + 1, output.subList(0, Math.min(8, output.size())));
            }
        }
    }

    private static List<Integer> answerOf(List<Instruction> solution, List<Integer> input) {
        Result result = run(solution, input, 500);
        return result.end == 0 ? result.output : null;
    }

    private static int fare(List<Instruction> program, Problem problem, List<Integer> input) {
        List<Integer> due = answerOf(problem.solution, input);
        Result result = run(program, input, problem.limit);
        if (result.end != 0) {
            return result.end;
        }
        boolean isSame = due.size() == result.output.size();
        for (int i = 0; isSame && i < due.size(); i++) {
            isSame = Math.abs(due.get(i) - result.output.get(i)) <= problem.checker;
        }
        return isSame ? 0 : result.output.isEmpty() && !due.isEmpty() ? 5 : 1;
    }

    private static Verdict verdictOf(Entry entry, Problem problem) {
        int kind = 0;
        int failed = -1;
        int score = 0;
        for (int i = problem.trials.size() - 1; i >= 0; i--) {
            int fared = fare(entry.program, problem, problem.trials.get(i).input);
            kind = fared != 0 ? fared : kind;
            failed = fared != 0 ? i : failed;
        }
        for (int group = 0; group < 4; group++) {
            int tests = 0;
            int passed = 0;
            for (Trial trial : problem.trials) {
                if (trial.group == group) {
                    tests++;
                    passed += fare(entry.program, problem, trial.input) == 0 ? 1 : 0;
                }
            }
            score += tests > 0 && tests == passed ? problem.points[group] : 0;
        }
        return new Verdict(kind, failed, score, problem.version());
    }

    private void giveVerdict(Entry entry) {
        entry.verdict = verdictOf(entry, problems.get(entry.problem));
        judgedTeams.add(entry.team);
    }

    private List<Line> lines(List<Counted> counted) {
        List<Line> lines = new ArrayList<>();
        for (int team = 0; team < 8; team++) {
            int solved = 0;
            int sum = 0;
            int latest = 0;
            for (int problem = 0; problem < 6; problem++) {
                int tries = 0;
                for (Counted one : counted) {
                    if (one.team == team && one.problem == problem) {
                        if (one.isRight) {
                            solved++;
                            sum += one.minute + 20 * tries;
                            latest = Math.max(latest, one.minute);
                            break;
                        }
                        tries++;
                    }
                }
            }
            lines.add(new Line(team, solved, sum, latest));
        }
        lines.sort(Comparator.comparingInt((Line line) -> -line.solved).thenComparingInt(Line::sum)
            .thenComparingInt(Line::latest).thenComparingInt(Line::team));
        return lines;
    }

    private boolean isHidden(Entry entry) {
        return frozen >= 0 && entry.minute >= frozen && !revealed.contains(10 * entry.team + entry.problem);
    }

    private List<Line> lines(boolean isFrozen) {
        return lines(entries.stream().filter(e -> e.verdict != null && !(isFrozen && isHidden(e)))
            .map(e -> new Counted(e.team, e.problem, e.minute, e.verdict.kind == 0)).collect(Collectors.toList()));
    }

    int code(int sort, int number) {
        if (out(sort, 0, 9) || out(number, -99, 99)) {
            return ARGUMENT;
        }
        if (program.size() == 16) {
            return STATE;
        }
        program.add(new Instruction(sort, number));
        return program.size();
    }

    int input(int number) {
        if (out(number, -9, 9)) {
            return ARGUMENT;
        }
        if (input.size() == 4) {
            return STATE;
        }
        input.add(number);
        return input.size();
    }

    int clear() {
        int size = takeProgram().size();
        takeInput();
        return size;
    }

    private List<Instruction> takeProgram() {
        List<Instruction> taken = program;
        program = new ArrayList<>();
        return taken;
    }

    private List<Integer> takeInput() {
        List<Integer> taken = input;
        input = new ArrayList<>();
        return taken;
    }

    int run(int limit, int what) {
        if (out(limit, 1, 500) || out(what, 0, 10)) {
            return ARGUMENT;
        }
        Result result = run(program, input, limit);
        return switch (what) {
            case 0 -> result.end;
            case 1 -> result.steps;
            case 2 -> result.output.size();
            default -> what - 3 < result.output.size() ? result.output.get(what - 3) : 0;
        };
    }

    int problem(int limit, int checker) {
        if (out(limit, 1, 500) || out(checker, 0, 1)) {
            return ARGUMENT;
        }
        if (problems.size() == 6) {
            return STATE;
        }
        Problem made = new Problem();
        made.solution = takeProgram();
        made.limit = limit;
        made.checker = checker;
        problems.add(made);
        return problems.size() - 1;
    }

    private boolean noProblem(int problem) {
        return out(problem, 0, problems.size() - 1);
    }

    int test(int problem, int group) {
        if (noProblem(problem) || out(group, 0, 3)) {
            return INDEX;
        }
        Problem asked = problems.get(problem);
        if (asked.trials.size() == 12 || answerOf(asked.solution, input) == null) {
            return STATE;
        }
        asked.trials.add(new Trial(takeInput(), group));
        return asked.trials.size() - 1;
    }

    int points(int problem, int group, int points) {
        if (noProblem(problem) || out(group, 0, 3)) {
            return INDEX;
        }
        if (out(points, 0, 100)) {
            return ARGUMENT;
        }
        int before = problems.get(problem).points[group];
        problems.get(problem).points[group] = points;
        return before;
    }

    int mend(int problem, int checker) {
        if (noProblem(problem)) {
            return INDEX;
        }
        if (out(checker, 0, 1)) {
            return ARGUMENT;
        }
        Problem asked = problems.get(problem);
        List<Instruction> solution = program.isEmpty() ? asked.solution : program;
        for (Trial trial : asked.trials) {
            if (answerOf(solution, trial.input) == null) {
                return STATE;
            }
        }
        asked.solution = solution;
        takeProgram();
        asked.checker = checker;
        asked.mendings++;
        return asked.version();
    }

    int answer(int problem, int test, int place) {
        if (noProblem(problem) || out(test, 0, problems.get(problem).trials.size() - 1) || place < 0) {
            return INDEX;
        }
        Problem asked = problems.get(problem);
        List<Integer> answer = answerOf(asked.solution, asked.trials.get(test).input);
        return place < answer.size() ? answer.get(place) : 0;
    }

    int enter(int team, int problem) {
        if (out(team, 0, 7) || noProblem(problem)) {
            return INDEX;
        }
        if (entries.size() == 60) {
            return STATE;
        }
        Entry made = new Entry();
        made.number = entries.size();
        made.team = team;
        made.problem = problem;
        made.minute = minute;
        made.program = takeProgram();
        entries.add(made);
        return made.number;
    }

    int pass(int minutes) {
        if (out(minutes, 1, 300)) {
            return ARGUMENT;
        }
        if (minute + minutes > 9999) {
            return STATE;
        }
        minute += minutes;
        return minute;
    }

    private int judgedOf(int team) {
        return (int) judgedTeams.stream().filter(one -> one == team).count();
    }

    int judge() {
        Entry chosen = entries.stream().filter(e -> e.verdict == null)
            .min(Comparator.comparingInt((Entry e) -> judgedOf(e.team)).thenComparingInt(e -> e.number)).orElse(null);
        if (chosen == null) {
            return -1;
        }
        giveVerdict(chosen);
        return chosen.number;
    }

    int rejudge(int problem) {
        if (noProblem(problem)) {
            return INDEX;
        }
        int count = 0;
        for (Entry entry : entries) {
            if (entry.problem == problem && entry.verdict != null
                && entry.verdict.version != problems.get(problem).version()) {
                entry.verdict = null;
                count++;
            }
        }
        return count;
    }

    private boolean noEntry(int entry) {
        return out(entry, 0, entries.size() - 1);
    }

    int entry(int entry, int what) {
        if (noEntry(entry)) {
            return INDEX;
        }
        if (out(what, 0, 6)) {
            return ARGUMENT;
        }
        Entry asked = entries.get(entry);
        Verdict verdict = asked.verdict == null ? new Verdict(-1, -1, 0, -1) : asked.verdict;
        return new int[] {verdict.kind, verdict.failed, verdict.score, verdict.version,
            asked.team, asked.problem, asked.minute}[what];
    }

    int likeness(int entry, int other) {
        if (noEntry(entry) || noEntry(other)) {
            return INDEX;
        }
        List<Instruction> one = entries.get(entry).program;
        List<Instruction> two = entries.get(other).program;
        int longer = Math.max(one.size(), two.size());
        int[][] common = new int[one.size() + 1][two.size() + 1];
        for (int i = one.size() - 1; i >= 0; i--) {
            for (int j = two.size() - 1; j >= 0; j--) {
                common[i][j] = one.get(i).isLike(two.get(j)) ? 1 + common[i + 1][j + 1]
                    : Math.max(common[i + 1][j], common[i][j + 1]);
            }
        }
        return longer == 0 ? 100 : 100 * common[0][0] / longer;
    }

    int freeze(int from) {
        if (out(from, -1, 9999)) {
            return ARGUMENT;
        }
        frozen = from;
        revealed.clear();
        return 0;
    }

    int reveal() {
        List<Line> lines = lines(true);
        for (int place = 7; place >= 0; place--) {
            int team = lines.get(place).team;
            for (int problem = 0; problem < 6; problem++) {
                int asked = problem;
                if (entries.stream().anyMatch(e -> e.team == team && e.problem == asked && e.verdict != null
                    && isHidden(e))) {
                    revealed.add(10 * team + problem);
                    return 10 * team + problem;
                }
            }
        }
        return -1;
    }

    private static int place(List<Line> lines, int team) {
        return (int) lines.stream().takeWhile(line -> line.team != team).count();
    }

    int board(int team, boolean isFrozen, int what) {
        if (out(team, 0, 7)) {
            return INDEX;
        }
        if (out(what, 0, 4)) {
            return ARGUMENT;
        }
        List<Line> lines = lines(isFrozen);
        int place = place(lines, team);
        Line line = lines.get(place);
        return new int[] {place, line.solved, line.sum, line.latest, hacks[team]}[what];
    }

    int placeAnew(int team) {
        if (out(team, 0, 7)) {
            return INDEX;
        }
        return place(lines(entries.stream().map(e -> new Counted(e.team, e.problem, e.minute,
            verdictOf(e, problems.get(e.problem)).kind == 0)).collect(Collectors.toList())), team);
    }

    int hack(int team, int entry) {
        if (out(team, 0, 7) || noEntry(entry)) {
            return INDEX;
        }
        Entry asked = entries.get(entry);
        Problem problem = problems.get(asked.problem);
        boolean hasSolved = entries.stream().anyMatch(e -> e.team == team && e.problem == asked.problem
            && e.verdict != null && e.verdict.kind == 0);
        boolean isRight = asked.verdict != null && asked.verdict.kind == 0;
        if (!hasSolved || asked.team == team || !isRight || problem.trials.size() == 12
            || answerOf(problem.solution, input) == null) {
            return STATE;
        }
        List<Integer> told = takeInput();
        if (fare(asked.program, problem, told) == 0) {
            hacks[team]--;
            return 0;
        }
        problem.trials.add(new Trial(told, 3));
        giveVerdict(asked);
        hacks[team]++;
        return 1;
    }
}
