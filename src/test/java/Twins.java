import java.util.ArrayList;
import java.util.List;
import java.util.function.IntSupplier;

/**
 * Two halls that were made alike: on one of them a call is made that may change nothing; then both are asked the
 * same, and told the same. Asking changes much, so each kind of question has twins of its own.
 */
final class Twins {
    interface Maker {
        RejudgeHall make();
    }

    interface Call {
        void on(RejudgeHall hall);
    }

    private static final int KINDS = 6;
    private static final int TEAMS = 8;
    private static final int PROBLEMS = 6;
    private static final int[] ASKED_ENTRIES = {0, 1, 2, 3, 4, 5, 6, 7, 58, 59, 60};
    private static final int[] ASKED_TESTS = {0, 1, 2, 3, 10, 11, 12};

    private final RejudgeHall hall;
    private final List<String> told = new ArrayList<>();

    private Twins(RejudgeHall hall) {
        this.hall = hall;
    }

    /** The call throws, and what the hall answers afterwards is as if it had not been made. */
    static void refused(String name, Class<? extends RuntimeException> want, Maker maker, Call call) {
        unchanged(name, maker, hall -> Check.fails(name, want, () -> call.on(hall)));
    }

    /** The call only looks: what the hall answers afterwards is as if it had not been made. */
    static void unchanged(String name, Maker maker, Call call) {
        for (int kind = 0; kind < KINDS; kind++) {
            RejudgeHall touched = maker.make();
            call.on(touched);
            Check.same(name + ", and asked then", answers(maker.make(), kind), answers(touched, kind));
        }
    }

    private static List<String> answers(RejudgeHall hall, int kind) {
        Twins twin = new Twins(hall);
        switch (kind) {
            case 0 -> twin.askDesk();
            case 1 -> twin.askEntries();
            case 2 -> twin.askBoards();
            case 3 -> twin.askProblems();
            case 4 -> twin.askJudging();
            default -> twin.askHacks();
        }
        return twin.told;
    }

    private int ask(String call, IntSupplier question) {
        int answer = -99;
        try {
            answer = question.getAsInt();
            told.add(call + " answered " + answer);
        } catch (RuntimeException e) {
            told.add(call + " threw " + e.getClass().getName());
        }
        return answer;
    }

    private void askDesk() {
        for (int what = 0; what < 11; what++) {
            int asked = what;
            ask("run(500, " + asked + ")", () -> hall.run(500, asked));
        }
        for (int limit = 1; limit < 5; limit++) {
            int asked = limit;
            ask("run(" + asked + ", 0)", () -> hall.run(asked, 0));
        }
        for (int i = 0; i < 5; i++) {
            ask("input(1)", () -> hall.input(1));
        }
        for (int i = 0; i < 17; i++) {
            int sort = i % 2 == 0 ? RejudgeHall.READ : RejudgeHall.PRINT;
            ask("code", () -> hall.code(sort, 0));
        }
        for (int what = 0; what < 11; what++) {
            int asked = what;
            ask("run(500, " + asked + ") of more", () -> hall.run(500, asked));
        }
        ask("clear()", hall::clear);
        ask("run(500, 0) of nothing", () -> hall.run(500, 0));
        ask("input(1) then", () -> hall.input(1));
    }

    private void askEntries() {
        int made = ask("enter(7, 0)", () -> hall.enter(7, 0));
        if (made >= 0) {
            ask("entry(the new one, 6)", () -> hall.entry(made, 6));
        }
        for (int entry : ASKED_ENTRIES) {
            for (int what = 0; what < 7; what++) {
                int asked = what;
                ask("entry(" + entry + ", " + asked + ")", () -> hall.entry(entry, asked));
            }
            ask("likeness(0, " + entry + ")", () -> hall.likeness(0, entry));
            if (made >= 0) {
                ask("likeness(the new one, " + entry + ")", () -> hall.likeness(made, entry));
            }
        }
    }

    private void askBoard(String name) {
        for (int team = 0; team < TEAMS; team++) {
            int asked = team;
            for (int what = 0; what < 5; what++) {
                int told = what;
                ask(name + ": board(" + team + ", true, " + what + ")", () -> hall.board(asked, true, told));
                ask(name + ": board(" + team + ", false, " + what + ")", () -> hall.board(asked, false, told));
            }
            ask(name + ": placeAnew(" + team + ")", () -> hall.placeAnew(asked));
        }
    }

    private void askBoards() {
        askBoard("at first");
        for (int i = 0; i < 12; i++) {
            ask("reveal()", hall::reveal);
        }
        for (int team = 0; team < TEAMS; team++) {
            int asked = team;
            ask("board(" + team + ", true, 0) of all revealed", () -> hall.board(asked, true, 0));
        }
    }

    private void askProblems() {
        for (int problem = 0; problem < PROBLEMS; problem++) {
            int asked = problem;
            for (int test : ASKED_TESTS) {
                ask("answer(" + problem + ", " + test + ", 0)", () -> hall.answer(asked, test, 0));
                ask("answer(" + problem + ", " + test + ", 1)", () -> hall.answer(asked, test, 1));
            }
            for (int group = 0; group < 4; group++) {
                int told = group;
                ask("points(" + problem + ", " + group + ", 1)", () -> hall.points(asked, told, 1));
            }
            ask("test(" + problem + ", 0)", () -> hall.test(asked, 0));
        }
        ask("clear()", hall::clear);
        for (int problem = 0; problem < PROBLEMS; problem++) {
            int asked = problem;
            ask("mend(" + problem + ", 0)", () -> hall.mend(asked, RejudgeHall.EXACT));
        }
        ask("problem(1, 0)", () -> hall.problem(1, RejudgeHall.EXACT));
    }

    private void judgeAll() {
        for (int i = 0; i < 61 && ask("judge()", hall::judge) >= 0; i++) {
            continue;
        }
    }

    private void askJudging() {
        judgeAll();
        for (int entry = 0; entry < 8; entry++) {
            int asked = entry;
            for (int what = 0; what < 4; what++) {
                int told = what;
                ask("entry(" + entry + ", " + what + ") as all is judged", () -> hall.entry(asked, told));
            }
        }
        for (int problem = 0; problem < PROBLEMS; problem++) {
            int asked = problem;
            ask("rejudge(" + problem + ")", () -> hall.rejudge(asked));
        }
        judgeAll();
        ask("pass(1)", () -> hall.pass(1));
        ask("pass(2)", () -> hall.pass(2));
        for (int team = 0; team < TEAMS; team++) {
            int asked = team;
            ask("enter(" + team + ", 0)", () -> hall.enter(asked, 0));
        }
        judgeAll();
    }

    private void askHacks() {
        ask("clear()", hall::clear);
        for (int team = 0; team < 4; team++) {
            int asked = team;
            for (int entry = 0; entry < 8; entry++) {
                int hacked = entry;
                ask("input(7)", () -> hall.input(7));
                ask("hack(" + team + ", " + entry + ")", () -> hall.hack(asked, hacked) ? 1 : 0);
            }
            ask("board(" + team + ", false, 4)", () -> hall.board(asked, false, 4));
        }
        ask("enter(0, 0)", () -> hall.enter(0, 0));
        judgeAll();
    }

    /**
     * A hall in the midst of a contest, in the minute 12: three problems, eight entries, two of which wait, one by a
     * rejudge; frozen from 10 on, one pair revealed; hacks of both kinds; program and input on the desk.
     */
    static RejudgeHall busy() {
        RejudgeHall hall = Check.echoHall(1);
        Check.input(hall, 2, 3);
        hall.test(0, 1);
        Check.code(hall, RejudgeHall.READ, 0, RejudgeHall.READ, 0, RejudgeHall.ADD, 0, RejudgeHall.PRINT, 0);
        hall.problem(20, RejudgeHall.NEAR);
        Check.input(hall, 1, 2);
        hall.test(1, 2);
        hall.problem(1, RejudgeHall.EXACT);
        Check.enterRight(hall, 0, 0);
        Check.enterWrong(hall, 1, 0);
        hall.pass(10);
        Check.code(hall, RejudgeHall.READ, 0, RejudgeHall.PRINT, 0, RejudgeHall.READ, 0);
        hall.enter(2, 0);
        Check.enterRight(hall, 1, 0);
        Check.constant(hall, 4);
        hall.enter(3, 1);
        Check.constant(hall, 3);
        hall.enter(2, 1);
        Check.judgeAll(hall);
        hall.points(0, 1, 40);
        hall.input(5);
        hall.hack(0, 3);
        Check.input(hall, 9, 9);
        hall.hack(2, 4);
        hall.pass(2);
        Check.enterWrong(hall, 3, 0);
        hall.judge();
        hall.mend(1, RejudgeHall.NEAR);
        hall.rejudge(1);
        hall.judge();
        Check.enterRight(hall, 3, 0);
        hall.freeze(10);
        hall.reveal();
        Check.code(hall, RejudgeHall.READ, 0, RejudgeHall.PUSH, 7, RejudgeHall.PRINT, 0);
        Check.input(hall, 8, -6);
        return hall;
    }

    /** A hall that takes no more: six problems, the first with 12 tests, 60 entries, the minute 9999, a full desk. */
    static RejudgeHall full() {
        RejudgeHall hall = Check.echoHall(2);
        for (int i = 1; i < 12; i++) {
            hall.input(i % 8);
            hall.test(0, i % 4);
        }
        for (int i = 2; i < 6; i++) {
            hall.problem(i, RejudgeHall.NEAR);
        }
        Check.enterRight(hall, 0, 0);
        Check.enterRight(hall, 1, 0);
        Check.enterRight(hall, 2, 1);
        Check.constant(hall, 5);
        hall.enter(3, 1);
        Check.judgeAll(hall);
        for (int i = 0; i < 33; i++) {
            hall.pass(300);
        }
        hall.pass(99);
        for (int i = 4; i < 60; i++) {
            hall.enter(i % TEAMS, i % 2);
        }
        Check.code(hall, Check.times(8, RejudgeHall.READ, 0, RejudgeHall.PRINT, 0));
        Check.input(hall, 6, 5, 4, 3);
        return hall;
    }
}
