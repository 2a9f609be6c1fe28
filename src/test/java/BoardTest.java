/** Promises 17 to 20: freeze, reveal, board, placeAnew. */
public final class BoardTest {
    private static final int EXACT = RejudgeHall.EXACT, NONE = RejudgeHall.NONE;

    public static void main(String[] args) {
        wrongArguments();
        sums();
        onlyVerdictsCount();
        order();
        freezes();
        reveals();
        revealsFromTheLastPlace();
        freezesAnew();
        placesAnew();
        Check.end();
    }

    private static void wrongArguments() {
        RejudgeHall hall = new RejudgeHall();
        Check.fails("freeze -2", Check.ARGUMENT, () -> hall.freeze(-2));
        Check.fails("freeze 10000", Check.ARGUMENT, () -> hall.freeze(10000));
        hall.freeze(9999);
        hall.freeze(NONE);
        Check.fails("board team -1", Check.INDEX, () -> hall.board(-1, false, 0));
        Check.fails("board team 8, and out of range", Check.INDEX, () -> hall.board(8, false, 5));
        Check.fails("board what -1", Check.ARGUMENT, () -> hall.board(0, false, -1));
        Check.fails("board what 5", Check.ARGUMENT, () -> hall.board(0, true, 5));
        Check.fails("anew team -1", Check.INDEX, () -> hall.placeAnew(-1));
        Check.fails("anew team 8", Check.INDEX, () -> hall.placeAnew(8));
    }

    /** place, solved, sum, latest minute */
    private static void row(String name, RejudgeHall hall, int team, boolean isFrozen, int... want) {
        for (int what = 0; what < want.length; what++) {
            Check.due(name + ", what " + what, want[what], hall.board(team, isFrozen, what));
        }
    }

    private static void sums() {
        RejudgeHall hall = Check.echoHall(3);
        Check.enterWrong(hall, 2, 0);
        Check.enterWrong(hall, 2, 1);
        Check.enterWrong(hall, 4, 0);
        hall.pass(7);
        hall.enter(2, 0);
        hall.pass(3);
        Check.enterRight(hall, 2, 0);
        hall.pass(5);
        Check.enterWrong(hall, 2, 0);
        Check.enterRight(hall, 2, 0);
        Check.judgeAll(hall);
        row("one solved by the third try", hall, 2, false, 0, 1, 50, 10, 0);
        row("only tries", hall, 4, false, 4, 0, 0, 0, 0);
        hall.pass(5);
        Check.enterRight(hall, 2, 2);
        Check.judgeAll(hall);
        row("two solved", hall, 2, false, 0, 2, 70, 20, 0);
        row("the same, as it is not frozen", hall, 2, true, 0, 2, 70, 20, 0);
    }

    private static void onlyVerdictsCount() {
        RejudgeHall hall = Check.echoHall(1);
        Check.enterWrong(hall, 5, 0);
        hall.pass(1);
        Check.enterRight(hall, 5, 0);
        hall.pass(1);
        Check.enterRight(hall, 5, 0);
        row("they wait", hall, 5, false, 5, 0, 0, 0);
        hall.judge();
        row("a try", hall, 5, false, 5, 0, 0, 0);
        hall.judge();
        row("solved", hall, 5, false, 0, 1, 21, 1);
        hall.judge();
        row("the earliest counts", hall, 5, false, 0, 1, 21, 1);
        hall.mend(0, EXACT);
        hall.rejudge(0);
        row("they wait again", hall, 5, false, 5, 0, 0, 0);
        Check.enterRight(hall, 5, 0);
    }

    private static void order() {
        RejudgeHall hall = Check.echoHall(2);
        Check.enterWrong(hall, 6, 0);
        hall.pass(10);
        Check.enterRight(hall, 3, 0);
        Check.enterRight(hall, 1, 0);
        hall.pass(5);
        Check.enterRight(hall, 3, 1);
        Check.enterRight(hall, 4, 0);
        hall.pass(15);
        Check.enterRight(hall, 5, 0);
        Check.judgeAll(hall);
        row("more solved", hall, 3, false, 0, 2, 25, 15);
        row("less sum", hall, 1, false, 1, 1, 10, 10);
        row("then", hall, 4, false, 2, 1, 15, 15);
        row("then the greatest", hall, 5, false, 3, 1, 30, 30);
        row("none, by numbers", hall, 0, false, 4, 0, 0, 0);
        row("none, by numbers", hall, 2, false, 5, 0, 0, 0);
        row("none, for all its tries", hall, 6, false, 6, 0, 0, 0);
        row("none, by numbers", hall, 7, false, 7, 0, 0, 0);
        orderByLatest();
    }

    /** Of the same sum, 40: team 1 by two tries and the minute 0, then 7, then 2 and 0. */
    private static void orderByLatest() {
        RejudgeHall hall = Check.echoHall(2);
        Check.enterWrong(hall, 7, 0);
        Check.enterWrong(hall, 1, 0);
        Check.enterWrong(hall, 1, 0);
        Check.enterRight(hall, 1, 0);
        hall.pass(20);
        Check.enterRight(hall, 7, 0);
        hall.pass(20);
        Check.enterRight(hall, 2, 0);
        Check.enterRight(hall, 0, 0);
        Check.judgeAll(hall);
        row("the earliest minute", hall, 1, false, 0, 1, 40, 0);
        row("the next minute", hall, 7, false, 1, 1, 40, 20);
        row("the same, by numbers", hall, 0, false, 2, 1, 40, 40);
        row("the same, by numbers", hall, 2, false, 3, 1, 40, 40);
    }

    private static RejudgeHall lateHall() {
        RejudgeHall hall = Check.echoHall(2);
        Check.enterRight(hall, 1, 0);
        hall.pass(9);
        Check.enterWrong(hall, 2, 0);
        hall.pass(1);
        Check.enterWrong(hall, 1, 1);
        Check.enterWrong(hall, 2, 0);
        Check.enterRight(hall, 2, 1);
        hall.pass(1);
        Check.enterRight(hall, 2, 0);
        Check.judgeAll(hall);
        return hall;
    }

    private static void freezes() {
        RejudgeHall hall = lateHall();
        row("not frozen", hall, 2, true, 0, 2, 61, 11);
        hall.freeze(10);
        row("frozen from 10 on", hall, 2, true, 2, 0, 0, 0);
        row("the other one", hall, 2, false, 0, 2, 61, 11);
        row("as before", hall, 1, true, 0, 1, 0, 0);
        hall.freeze(11);
        row("frozen from 11 on", hall, 2, true, 1, 1, 10, 10);
        hall.freeze(12);
        row("nothing is late", hall, 2, true, 0, 2, 61, 11);
        Check.due("nothing to reveal", NONE, hall.reveal());
        hall.freeze(0);
        row("all is late", hall, 1, true, 1, 0, 0, 0);
        hall.freeze(NONE);
        row("frozen no more", hall, 2, true, 0, 2, 61, 11);
        Check.due("nothing to reveal, as it is not frozen", NONE, hall.reveal());
    }

    private static void reveals() {
        RejudgeHall hall = lateHall();
        hall.freeze(10);
        Check.due("team 2 is the last of those, its lowest problem", 20, hall.reveal());
        row("with its tries, the late ones too", hall, 2, true, 1, 1, 51, 11);
        Check.due("team 1 is ahead of it", 21, hall.reveal());
        row("all of team 2", hall, 2, true, 0, 2, 61, 11);
        Check.due("a pair with a try alone", 11, hall.reveal());
        row("all of team 1", hall, 1, true, 1, 1, 0, 0);
        Check.due("no more", NONE, hall.reveal());
        hall.pass(1);
        Check.enterRight(hall, 1, 1);
        Check.enterRight(hall, 0, 1);
        Check.due("they wait", NONE, hall.reveal());
        Check.judgeAll(hall);
        row("the pair was revealed, so the next one counts", hall, 1, true, 0, 2, 32, 12);
        row("this one was not", hall, 0, true, 2, 0, 0, 0);
        Check.due("until", 1, hall.reveal());
        row("now", hall, 0, true, 2, 1, 12, 12);
    }

    /** By the frozen board the team 0 is the last, by the other one the team 3. */
    private static void revealsFromTheLastPlace() {
        RejudgeHall hall = Check.echoHall(3);
        Check.enterRight(hall, 3, 0);
        hall.pass(50);
        Check.enterRight(hall, 0, 2);
        Check.enterRight(hall, 0, 1);
        Check.enterWrong(hall, 3, 2);
        Check.judgeAll(hall);
        hall.freeze(50);
        Check.due("the last with such a pair", 1, hall.reveal());
        row("team 0 is behind team 3 still", hall, 0, true, 1, 1, 50, 50);
        Check.due("so it is again", 2, hall.reveal());
        row("team 0 is ahead now", hall, 0, true, 0, 2, 100, 50);
        Check.due("team 3", 32, hall.reveal());
        Check.due("none", NONE, hall.reveal());
    }

    private static void freezesAnew() {
        RejudgeHall hall = lateHall();
        hall.freeze(10);
        hall.reveal();
        hall.freeze(10);
        row("nothing is revealed then", hall, 2, true, 2, 0, 0, 0);
        Check.due("so it is revealed again", 20, hall.reveal());
        Check.fails("out of range", Check.ARGUMENT, () -> hall.freeze(10000));
        row("that changes nothing", hall, 2, true, 1, 1, 51, 11);
        hall.freeze(NONE);
        hall.freeze(10);
        Check.due("nothing is left of it", 20, hall.reveal());
    }

    private static void placesAnew() {
        RejudgeHall hall = Check.echoHall(1);
        hall.pass(1);
        Check.enterRight(hall, 6, 0);
        hall.pass(1);
        Check.constant(hall, 5);
        hall.enter(4, 0);
        hall.freeze(0);
        Check.due("those that wait, without freezing", 0, hall.placeAnew(6));
        Check.due("then", 1, hall.placeAnew(4));
        Check.due("then the others", 2, hall.placeAnew(0));
        Check.due("they wait still", 6, hall.board(6, false, 0));
        Check.due("nothing is judged", NONE, hall.entry(0, 0));
        Check.judgeAll(hall);
        Check.constant(hall, 5);
        hall.mend(0, EXACT);
        hall.input(2);
        hall.test(0, 0);
        Check.due("by the versions of now", 0, hall.placeAnew(4));
        Check.due("team 6 would not be right", 6, hall.placeAnew(6));
        Check.due("it is so far", 0, hall.board(6, false, 0));
        Check.due("and is as it was", 1, hall.entry(0, 3));
        Check.due("the judgings are as they were", 2, hall.rejudge(0));
        Check.enterRight(hall, 0, 0);
        Check.due("none of team 0 was judged", 2, hall.judge());
        Check.due("one of both", 0, hall.judge());
        Check.due("the other", 1, hall.judge());
        Check.due("as told", 0, hall.board(4, false, 0));
    }
}
