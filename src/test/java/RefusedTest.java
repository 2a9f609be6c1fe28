/**
 * "If several apply, the one that it lists first is thrown. A call that throws changes nothing.": every argument just
 * outside its range and far outside, alone and together with others, in a hall that is busy and in one that is full.
 */
public final class RefusedTest {
    private static final int EXACT = RejudgeHall.EXACT, NONE = RejudgeHall.NONE, PUSH = RejudgeHall.PUSH;
    private static final int LEAST = Integer.MIN_VALUE, MOST = Integer.MAX_VALUE;

    public static void main(String[] args) {
        makersStand();
        desk();
        problems();
        answers();
        entries();
        boards();
        hacks();
        fullDesk();
        fullProblems();
        fullEntries();
        fullHacks();
        edgesAreTaken();
        Check.end();
    }

    private static int[] beside(int least, int most) {
        return new int[] {LEAST, least - 1, most + 1, MOST};
    }

    private static void busy(String name, Class<? extends RuntimeException> want, Twins.Call call) {
        Twins.refused(name + " (busy)", want, Twins::busy, call);
    }

    private static void full(String name, Class<? extends RuntimeException> want, Twins.Call call) {
        Twins.refused(name + " (full)", want, Twins::full, call);
    }

    /** What the other checks here rely on. */
    private static void makersStand() {
        RejudgeHall hall = Twins.busy();
        Check.due("busy: one hack in vain", -1, hall.board(0, false, 4));
        Check.due("busy: one hack that succeeded", 1, hall.board(2, false, 4));
        Check.due("busy: the entry 7 waits", NONE, hall.entry(7, 0));
        Check.fails("busy: there are 8 entries", Check.INDEX, () -> hall.entry(8, 0));
        Check.due("busy: there is more to reveal", true, hall.reveal() >= 0);
        RejudgeHall other = Twins.full();
        Check.due("full: the minute", 9999, other.entry(59, 6));
        Check.due("full: a right entry", RejudgeHall.RIGHT, other.entry(1, 0));
        Check.due("full: 12 tests", 3, other.answer(0, 11, 0));
    }

    private static void desk() {
        for (int bad : beside(0, 9)) {
            busy("code, sort " + bad, Check.ARGUMENT, hall -> hall.code(bad, 0));
            busy("code, both, sort " + bad, Check.ARGUMENT, hall -> hall.code(bad, 100));
        }
        for (int bad : beside(-99, 99)) {
            for (int sort = 0; sort < 10; sort++) {
                int told = sort;
                busy("code, sort " + sort + ", number " + bad, Check.ARGUMENT, hall -> hall.code(told, bad));
            }
        }
        for (int bad : beside(-9, 9)) {
            busy("input " + bad, Check.ARGUMENT, hall -> hall.input(bad));
        }
        for (int bad : beside(1, 500)) {
            busy("run, limit " + bad, Check.ARGUMENT, hall -> hall.run(bad, 0));
        }
        for (int bad : beside(0, 10)) {
            busy("run, what " + bad, Check.ARGUMENT, hall -> hall.run(10, bad));
        }
    }

    private static void problems() {
        for (int bad : beside(1, 500)) {
            busy("problem, limit " + bad, Check.ARGUMENT, hall -> hall.problem(bad, EXACT));
        }
        for (int bad : beside(0, 1)) {
            busy("problem, checker " + bad, Check.ARGUMENT, hall -> hall.problem(1, bad));
            busy("mend, checker " + bad, Check.ARGUMENT, hall -> hall.mend(0, bad));
        }
        for (int bad : beside(0, 2)) {
            busy("test, problem " + bad, Check.INDEX, hall -> hall.test(bad, 0));
            busy("points, problem " + bad, Check.INDEX, hall -> hall.points(bad, 0, 7));
            busy("points, all, problem " + bad, Check.INDEX, hall -> hall.points(bad, 4, 101));
            busy("points, problem " + bad + ", and points", Check.INDEX, hall -> hall.points(bad, 0, -1));
            busy("mend, problem " + bad, Check.INDEX, hall -> hall.mend(bad, EXACT));
            busy("mend, both, problem " + bad, Check.INDEX, hall -> hall.mend(bad, 2));
        }
        for (int bad : beside(0, 3)) {
            busy("test, group " + bad, Check.INDEX, hall -> hall.test(0, bad));
            busy("points, group " + bad, Check.INDEX, hall -> hall.points(0, bad, 7));
            busy("points, group " + bad + ", and points", Check.INDEX, hall -> hall.points(0, bad, 101));
        }
        for (int bad : beside(0, 100)) {
            busy("points " + bad, Check.ARGUMENT, hall -> hall.points(0, 1, bad));
        }
    }

    private static void answers() {
        for (int bad : beside(0, 2)) {
            busy("answer, problem " + bad, Check.INDEX, hall -> hall.answer(bad, 0, 0));
        }
        for (int bad : beside(0, 1)) {
            busy("answer, test " + bad, Check.INDEX, hall -> hall.answer(0, bad, 0));
        }
        busy("answer, no tests", Check.INDEX, hall -> hall.answer(2, 0, 0));
        busy("answer, place -1", Check.INDEX, hall -> hall.answer(0, 0, -1));
        busy("answer, least place", Check.INDEX, hall -> hall.answer(0, 0, LEAST));
    }

    private static void entries() {
        for (int bad : beside(0, 7)) {
            busy("enter, team " + bad, Check.INDEX, hall -> hall.enter(bad, 0));
            busy("entry " + bad, Check.INDEX, hall -> hall.entry(bad, 0));
            busy("entry, both, " + bad, Check.INDEX, hall -> hall.entry(bad, 7));
            busy("likeness of " + bad, Check.INDEX, hall -> hall.likeness(bad, 0));
            busy("likeness to " + bad, Check.INDEX, hall -> hall.likeness(0, bad));
            busy("likeness, both " + bad, Check.INDEX, hall -> hall.likeness(bad, bad));
        }
        for (int bad : beside(0, 2)) {
            busy("enter, problem " + bad, Check.INDEX, hall -> hall.enter(0, bad));
            busy("rejudge, problem " + bad, Check.INDEX, hall -> hall.rejudge(bad));
        }
        for (int bad : beside(0, 6)) {
            busy("entry, what " + bad, Check.ARGUMENT, hall -> hall.entry(0, bad));
        }
        for (int bad : beside(1, 300)) {
            busy("pass " + bad, Check.ARGUMENT, hall -> hall.pass(bad));
        }
    }

    private static void boards() {
        for (int bad : beside(-1, 9999)) {
            busy("freeze " + bad, Check.ARGUMENT, hall -> hall.freeze(bad));
        }
        for (int bad : beside(0, 7)) {
            busy("board, team " + bad, Check.INDEX, hall -> hall.board(bad, false, 0));
            busy("board, both, team " + bad, Check.INDEX, hall -> hall.board(bad, true, 5));
            busy("placeAnew, team " + bad, Check.INDEX, hall -> hall.placeAnew(bad));
        }
        for (int bad : beside(0, 4)) {
            busy("board, what " + bad, Check.ARGUMENT, hall -> hall.board(0, false, bad));
            busy("frozen board, what " + bad, Check.ARGUMENT, hall -> hall.board(0, true, bad));
        }
    }

    private static void hacks() {
        for (int bad : beside(0, 7)) {
            busy("hack, team " + bad, Check.INDEX, hall -> hall.hack(bad, 3));
            busy("hack, entry " + bad, Check.INDEX, hall -> hall.hack(0, bad));
            busy("hack, team " + bad + ", and its state", Check.INDEX, hall -> hall.hack(bad, 7));
            busy("hack, entry " + bad + ", and its state", Check.INDEX, hall -> hall.hack(7, bad));
        }
        busy("hack, not solved", Check.STATE, hall -> hall.hack(3, 3));
        busy("hack, another problem solved", Check.STATE, hall -> hall.hack(0, 4));
        busy("hack, its own", Check.STATE, hall -> hall.hack(0, 0));
        busy("hack, a wrong one", Check.STATE, hall -> hall.hack(0, 1));
        busy("hack, one that waits", Check.STATE, hall -> hall.hack(0, 7));
    }

    private static void fullDesk() {
        for (int sort = 0; sort < 10; sort++) {
            int told = sort;
            full("code, the 17th", Check.STATE, hall -> hall.code(told, 0));
        }
        full("code, the 17th, sort", Check.ARGUMENT, hall -> hall.code(10, 0));
        full("code, the 17th, number", Check.ARGUMENT, hall -> hall.code(PUSH, -100));
        full("input, the 5th", Check.STATE, hall -> hall.input(0));
        full("input, the 5th, out of range", Check.ARGUMENT, hall -> hall.input(-10));
    }

    private static void fullProblems() {
        full("problem, the 7th", Check.STATE, hall -> hall.problem(1, EXACT));
        full("problem, the 7th, limit", Check.ARGUMENT, hall -> hall.problem(501, EXACT));
        full("problem, the 7th, checker", Check.ARGUMENT, hall -> hall.problem(1, 2));
        full("test, the 13th", Check.STATE, hall -> hall.test(0, 0));
        full("test, the 13th, group", Check.INDEX, hall -> hall.test(0, 4));
        full("test, no problem 6", Check.INDEX, hall -> hall.test(6, 0));
        full("answer, no test 12", Check.INDEX, hall -> hall.answer(0, 12, 0));
        full("mend, no answers", Check.STATE, hall -> hall.mend(0, EXACT));
        full("mend, no answers, checker", Check.ARGUMENT, hall -> hall.mend(0, 2));
        full("mend, no answers, no problem", Check.INDEX, hall -> hall.mend(6, EXACT));
    }

    private static void fullEntries() {
        full("enter, the 61st", Check.STATE, hall -> hall.enter(0, 0));
        full("enter, the 61st, team", Check.INDEX, hall -> hall.enter(8, 0));
        full("enter, the 61st, problem", Check.INDEX, hall -> hall.enter(0, 6));
        full("entry 60", Check.INDEX, hall -> hall.entry(60, 0));
        full("likeness of 60", Check.INDEX, hall -> hall.likeness(60, 59));
        full("likeness to 60", Check.INDEX, hall -> hall.likeness(59, 60));
        full("pass 1", Check.STATE, hall -> hall.pass(1));
        full("pass 300", Check.STATE, hall -> hall.pass(300));
        full("pass 0", Check.ARGUMENT, hall -> hall.pass(0));
        full("pass 301", Check.ARGUMENT, hall -> hall.pass(301));
        full("rejudge 6", Check.INDEX, hall -> hall.rejudge(6));
    }

    private static void fullHacks() {
        full("hack, 12 tests", Check.STATE, hall -> hall.hack(0, 1));
        full("hack, 12 tests, the other way", Check.STATE, hall -> hall.hack(1, 0));
        full("hack, no entry 60", Check.INDEX, hall -> hall.hack(0, 60));
        full("hack, no team 8", Check.INDEX, hall -> hall.hack(8, 1));
        Twins.refused("hack, no answer", Check.STATE, () -> {
            RejudgeHall hall = Twins.full();
            hall.clear();
            hall.code(PUSH, 3);
            return hall;
        }, hall -> hall.hack(2, 3));
        Check.due("hack, one with tests to come", true, Twins.full().hack(2, 3));
    }

    private static void taken(String name, Twins.Call call) {
        try {
            call.on(Twins.busy());
        } catch (RuntimeException e) {
            Check.due(name + " is refused", false, true);
        }
    }

    /** The first and the last of each range. */
    private static void edgesAreTaken() {
        taken("code, sort 0", hall -> hall.code(0, -99));
        taken("code, sort 9", hall -> hall.code(9, 99));
        taken("input -9", hall -> hall.input(-9));
        taken("input 9", hall -> hall.input(9));
        taken("run, limit 1", hall -> hall.run(1, 0));
        taken("run, limit 500", hall -> hall.run(500, 10));
        taken("problem, limit 1", hall -> hall.problem(1, 0));
        taken("problem, limit 500", hall -> hall.problem(500, 1));
        taken("test, problem 0, group 0", hall -> hall.test(0, 0));
        taken("test, problem 2, group 3", hall -> hall.test(2, 3));
        taken("points, 0", hall -> hall.points(0, 0, 0));
        taken("points, 100", hall -> hall.points(2, 3, 100));
        taken("mend, problem 0", hall -> hall.mend(0, 0));
        taken("mend, problem 2", hall -> hall.mend(2, 1));
        taken("answer, the first", hall -> hall.answer(0, 0, 0));
        taken("answer, the last", hall -> hall.answer(1, 1, MOST));
        taken("enter, team 0", hall -> hall.enter(0, 0));
        taken("enter, team 7", hall -> hall.enter(7, 2));
        taken("pass 1", hall -> hall.pass(1));
        taken("pass 300", hall -> hall.pass(300));
        taken("rejudge 0", hall -> hall.rejudge(0));
        taken("rejudge 2", hall -> hall.rejudge(2));
        taken("entry 0", hall -> hall.entry(0, 0));
        taken("entry 7", hall -> hall.entry(7, 6));
        taken("likeness", hall -> hall.likeness(0, 7));
        taken("likeness", hall -> hall.likeness(7, 0));
        taken("freeze NONE", hall -> hall.freeze(NONE));
        taken("freeze 0", hall -> hall.freeze(0));
        taken("freeze 9999", hall -> hall.freeze(9999));
        taken("board, team 0", hall -> hall.board(0, true, 0));
        taken("board, team 7", hall -> hall.board(7, false, 4));
        taken("placeAnew 0", hall -> hall.placeAnew(0));
        taken("placeAnew 7", hall -> hall.placeAnew(7));
        taken("hack, team 0", hall -> hall.hack(0, 3));
    }
}
