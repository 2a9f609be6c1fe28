/** The boundary cases of promises 17 to 20 and of "Boards", a method for each sentence. */
public final class BoardEdgeTest {
    private static final int PUSH = RejudgeHall.PUSH, ADD = RejudgeHall.ADD,
        JUMP = RejudgeHall.JUMP, PRINT = RejudgeHall.PRINT;
    private static final int EXACT = RejudgeHall.EXACT, NEAR = RejudgeHall.NEAR, NONE = RejudgeHall.NONE;

    public static void main(String[] args) {
        countsEntriesWithAVerdict();
        twentyForEachAhead();
        anotherVerdictWhatever();
        ofThatTeamAndProblem();
        earliestByNumbersCounts();
        theMostSolvedFirst();
        theLeastSumFirst();
        theLeastLatestFirst();
        thenByNumbers();
        latestOfThoseThatCount();
        asTheOtherOneIfNotFrozen();
        ofThatMinuteOrLater();
        frozenFrom0AndFrom9999();
        theOtherBoardIsNotFrozen();
        noTriesEither();
        revealsNoneIfNotFrozen();
        revealsAllFromTheLastPlaceOn();
        revealsWhatIsLate();
        revealsWhatHasAVerdict();
        revealsOnceEach();
        revealsByTheOrderOfNow();
        inPlaceOfWhatWasTold();
        revealedPairsStay();
        anewAllAreJudged();
        anewByTheVersionsOfNow();
        anewWithoutFreezing();
        boardAndPlaceAnewOnlyLook();
        Check.end();
    }

    /** place, solved, sum, latest, hacks, as many as told */
    private static void row(String name, RejudgeHall hall, int team, boolean isFrozen, int... want) {
        for (int what = 0; what < want.length; what++) {
            Check.due(name + ", what " + what, want[what], hall.board(team, isFrozen, what));
        }
    }

    private static void places(String name, RejudgeHall hall, boolean isFrozen, int... teams) {
        for (int place = 0; place < teams.length; place++) {
            Check.due(name + ", place of team " + teams[place], place, hall.board(teams[place], isFrozen, 0));
        }
    }

    /** "The board counts entries with a verdict." */
    private static void countsEntriesWithAVerdict() {
        RejudgeHall hall = Check.echoHall(1);
        Check.enterWrong(hall, 4, 0);
        Check.enterWrong(hall, 4, 0);
        hall.pass(3);
        Check.enterRight(hall, 4, 0);
        for (int judged = 0; judged <= 2; judged++) {
            row("judged " + judged, hall, 4, false, 4, 0, 0, 0, 0);
            hall.judge();
        }
        row("all judged", hall, 4, false, 0, 1, 43, 3, 0);
        hall.mend(0, EXACT);
        row("mended, not rejudged", hall, 4, false, 0, 1, 43, 3, 0);
        hall.rejudge(0);
        row("they wait again", hall, 4, false, 4, 0, 0, 0, 0);
    }

    /** "20 for each one of that team and problem ahead of it that has another verdict" */
    private static void twentyForEachAhead() {
        for (int ahead = 0; ahead <= 3; ahead++) {
            RejudgeHall hall = Check.echoHall(1);
            for (int i = 0; i < ahead; i++) {
                Check.enterWrong(hall, 1, 0);
            }
            hall.pass(7);
            Check.enterRight(hall, 1, 0);
            Check.judgeAll(hall);
            row(ahead + " ahead", hall, 1, false, 0, 1, 7 + 20 * ahead, 7);
            Check.enterWrong(hall, 1, 0);
            Check.judgeAll(hall);
            row(ahead + " ahead, one behind", hall, 1, false, 0, 1, 7 + 20 * ahead, 7);
        }
    }

    /** Every verdict but RIGHT is another one. */
    private static void anotherVerdictWhatever() {
        int[][] programs = {{PUSH, 6, PRINT, 0}, {JUMP, 0}, Check.times(9, PUSH, 1), {ADD, 0}, {}};
        for (int i = 0; i < programs.length; i++) {
            RejudgeHall hall = Check.echoHall(1);
            Check.code(hall, programs[i]);
            hall.enter(1, 0);
            Check.enterRight(hall, 1, 0);
            hall.judge();
            Check.due("the verdict", 1 + i, hall.entry(0, 0));
            row("a try", hall, 1, false, 1, 0, 0, 0);
            hall.judge();
            row("behind a try", hall, 1, false, 0, 1, 20, 0);
        }
    }

    /** Tries of another team and for another problem do not count. */
    private static void ofThatTeamAndProblem() {
        RejudgeHall hall = Check.echoHall(2);
        Check.enterWrong(hall, 0, 0);
        Check.enterWrong(hall, 1, 1);
        Check.enterWrong(hall, 2, 0);
        hall.pass(2);
        Check.enterRight(hall, 1, 0);
        Check.judgeAll(hall);
        row("no try ahead", hall, 1, false, 0, 1, 2, 2);
        Check.enterRight(hall, 1, 1);
        Check.judgeAll(hall);
        row("one ahead of the other", hall, 1, false, 0, 2, 24, 2);
    }

    /** "the earliest one of these, by numbers, counts", in whatever order they were judged. */
    private static void earliestByNumbersCounts() {
        for (int first = 0; first <= 1; first++) {
            RejudgeHall hall = Check.echoHall(1);
            if (first == 0) {
                Check.enterRight(hall, 6, 0);
            } else {
                Check.enterWrong(hall, 6, 0);
            }
            hall.judge();
            hall.mend(0, EXACT);
            hall.pass(5);
            Check.enterRight(hall, 6, 0);
            hall.judge();
            Check.due("the first waits", 1, hall.rejudge(0));
            row("the second counts", hall, 6, false, 0, 1, 5, 5);
            hall.judge();
            row("the first is judged", hall, 6, false, 0, 1, first == 0 ? 0 : 25, first == 0 ? 0 : 5);
        }
    }

    /** "by how many they solved, the most first" */
    private static void theMostSolvedFirst() {
        RejudgeHall hall = Check.echoHall(6);
        for (int problem = 0; problem < 4; problem++) {
            for (int team = 0; team < 4 - problem; team++) {
                Check.enterRight(hall, team, problem);
            }
        }
        hall.pass(300);
        for (int problem = 0; problem < 6; problem++) {
            Check.enterRight(hall, 7, problem);
            if (problem < 5) {
                Check.enterRight(hall, 6, problem);
            }
        }
        Check.judgeAll(hall);
        places("by the most", hall, false, 7, 6, 0, 1, 2, 3, 4, 5);
        row("six", hall, 7, false, 0, 6, 1800, 300);
        row("five", hall, 6, false, 1, 5, 1500, 300);
        row("four", hall, 0, false, 2, 4, 0, 0);
        row("one", hall, 3, false, 5, 1, 0, 0);
        row("none", hall, 4, false, 6, 0, 0, 0);
    }

    /** "then by the sum of these, the least first" */
    private static void theLeastSumFirst() {
        RejudgeHall hall = Check.echoHall(1);
        Check.enterWrong(hall, 3, 0);
        hall.pass(1);
        Check.enterRight(hall, 3, 0);
        hall.pass(19);
        Check.enterRight(hall, 5, 0);
        hall.pass(1);
        Check.enterRight(hall, 4, 0);
        hall.pass(1);
        Check.enterRight(hall, 2, 0);
        Check.judgeAll(hall);
        places("20, 21 by the minute 1, 21 by 21, 22", hall, false, 5, 3, 4, 2, 0, 1, 6, 7);
        row("a sum of 20", hall, 5, false, 0, 1, 20, 20);
        row("a sum of 21 by a try", hall, 3, false, 1, 1, 21, 1);
        row("a sum of 21", hall, 4, false, 2, 1, 21, 21);
        row("a sum of 22", hall, 2, false, 3, 1, 22, 22);
    }

    /** "then by the minute of the latest one that counts, the least first" */
    private static void theLeastLatestFirst() {
        RejudgeHall hall = Check.echoHall(2);
        hall.pass(3);
        Check.enterRight(hall, 0, 0);
        hall.pass(1);
        Check.enterRight(hall, 1, 0);
        hall.pass(1);
        Check.enterRight(hall, 2, 0);
        Check.enterRight(hall, 3, 0);
        Check.enterRight(hall, 3, 1);
        Check.enterRight(hall, 2, 1);
        hall.pass(1);
        Check.enterRight(hall, 1, 1);
        hall.pass(1);
        Check.enterRight(hall, 0, 1);
        Check.judgeAll(hall);
        places("5 and 5, twice, 4 and 6, 3 and 7", hall, false, 2, 3, 1, 0, 4, 5, 6, 7);
        for (int team = 0; team < 4; team++) {
            Check.due("all have the same sum", 10, hall.board(team, false, 2));
        }
    }

    /** "then by numbers", and "The place of a team is 0 for the first one." */
    private static void thenByNumbers() {
        RejudgeHall hall = Check.echoHall(1);
        places("nobody solved", hall, false, 0, 1, 2, 3, 4, 5, 6, 7);
        for (int team = 7; team >= 0; team--) {
            Check.enterRight(hall, team, 0);
        }
        Check.judgeAll(hall);
        places("all the same", hall, false, 0, 1, 2, 3, 4, 5, 6, 7);
        Check.due("anew too", 7, hall.placeAnew(7));
    }

    /** "3 the minute of the latest that counts, 0 without" */
    private static void latestOfThoseThatCount() {
        RejudgeHall hall = Check.echoHall(3);
        hall.pass(4);
        Check.enterWrong(hall, 0, 0);
        Check.judgeAll(hall);
        row("without", hall, 0, false, 0, 0, 0, 0);
        hall.pass(1);
        Check.enterRight(hall, 0, 1);
        hall.pass(1);
        Check.enterRight(hall, 0, 1);
        Check.enterWrong(hall, 0, 2);
        Check.judgeAll(hall);
        row("a later one that does not count", hall, 0, false, 0, 1, 5, 5);
        hall.pass(1);
        Check.enterRight(hall, 0, 0);
        Check.judgeAll(hall);
        row("the later one of two", hall, 0, false, 0, 2, 32, 7);
    }

    /** "which is as the other one, if it is not frozen" */
    private static void asTheOtherOneIfNotFrozen() {
        RejudgeHall hall = Twins.busy();
        hall.freeze(NONE);
        for (int team = 0; team < 8; team++) {
            for (int what = 0; what < 5; what++) {
                Check.due("both boards", hall.board(team, false, what), hall.board(team, true, what));
            }
        }
    }

    /** Team 2 solves a problem each in the minutes 4, 5 and 6. */
    private static RejudgeHall minutes4To6() {
        RejudgeHall hall = Check.echoHall(3);
        hall.pass(3);
        for (int problem = 0; problem < 3; problem++) {
            hall.pass(1);
            Check.enterRight(hall, 2, problem);
        }
        Check.judgeAll(hall);
        return hall;
    }

    /** "entries of that minute or later do not count on it" */
    private static void ofThatMinuteOrLater() {
        RejudgeHall hall = minutes4To6();
        int[][] due = {{0, 0, 0}, {0, 0, 0}, {1, 4, 4}, {2, 9, 5}, {3, 15, 6}};
        for (int from = 3; from <= 7; from++) {
            hall.freeze(from);
            int place = due[from - 3][0] > 0 ? 0 : 2;
            row("frozen from " + from, hall, 2, true, place, due[from - 3][0], due[from - 3][1], due[from - 3][2]);
        }
    }

    /** "0 to 9999; NONE for not frozen" */
    private static void frozenFrom0AndFrom9999() {
        RejudgeHall hall = Check.echoHall(3);
        Check.enterRight(hall, 0, 0);
        for (int i = 0; i < 33; i++) {
            hall.pass(300);
        }
        hall.pass(98);
        Check.enterRight(hall, 0, 1);
        hall.pass(1);
        Check.enterRight(hall, 0, 2);
        Check.judgeAll(hall);
        int[] from = {NONE, 0, 1, 9998, 9999, NONE};
        int[] solved = {3, 0, 1, 1, 2, 3};
        int[] reveals = {NONE, 0, 1, 1, 2, NONE};
        for (int i = 0; i < from.length; i++) {
            hall.freeze(from[i]);
            Check.due("solved, frozen from " + from[i], solved[i], hall.board(0, true, 1));
            Check.due("reveals, frozen from " + from[i], reveals[i], hall.reveal());
        }
        hall.freeze(9999);
        Check.fails("10000", Check.ARGUMENT, () -> hall.freeze(10000));
        Check.fails("-2", Check.ARGUMENT, () -> hall.freeze(-2));
        Check.due("frozen from 9999 still", 2, hall.board(0, true, 1));
    }

    private static void theOtherBoardIsNotFrozen() {
        RejudgeHall hall = minutes4To6();
        for (int from = 3; from <= 7; from++) {
            hall.freeze(from);
            row("the other one, frozen from " + from, hall, 2, false, 0, 3, 15, 6);
            Check.due("anew, frozen from " + from, 0, hall.placeAnew(2));
        }
    }

    /** "they are no tries on it either" */
    private static void noTriesEither() {
        RejudgeHall hall = Check.echoHall(1);
        hall.pass(4);
        Check.enterWrong(hall, 2, 0);
        hall.pass(1);
        Check.enterWrong(hall, 2, 0);
        hall.pass(1);
        Check.enterRight(hall, 2, 0);
        Check.judgeAll(hall);
        row("by two tries", hall, 2, false, 0, 1, 46, 6);
        hall.freeze(5);
        row("one try on it", hall, 2, true, 2, 0, 0, 0);
        Check.due("revealed", 20, hall.reveal());
        row("all of the pair", hall, 2, true, 0, 1, 46, 6);
        hall.freeze(7);
        row("none is late", hall, 2, true, 0, 1, 46, 6);
    }

    /** "NONE if there is none, or it is not frozen" */
    private static void revealsNoneIfNotFrozen() {
        RejudgeHall hall = minutes4To6();
        Check.due("not frozen", NONE, hall.reveal());
        hall.freeze(0);
        hall.freeze(NONE);
        Check.due("frozen no more", NONE, hall.reveal());
        hall.freeze(7);
        Check.due("none late", NONE, hall.reveal());
        hall.freeze(6);
        Check.due("what was not revealed is revealed now", 22, hall.reveal());
        Check.due("none more", NONE, hall.reveal());
        Twins.unchanged("reveal of none", () -> {
            RejudgeHall twin = Twins.busy();
            twin.freeze(9999);
            return twin;
        }, twin -> Check.due("none", NONE, twin.reveal()));
        Twins.unchanged("reveal, not frozen", () -> {
            RejudgeHall twin = Twins.busy();
            twin.freeze(NONE);
            return twin;
        }, twin -> Check.due("none", NONE, twin.reveal()));
    }

    /** "returns 10 times the team and the problem, together", of all the teams and problems */
    private static void revealsAllFromTheLastPlaceOn() {
        RejudgeHall hall = Check.echoHall(6);
        for (int problem = 5; problem >= 0; problem--) {
            for (int team = 0; team < 8; team++) {
                Check.enterWrong(hall, team, problem);
            }
        }
        Check.judgeAll(hall);
        for (int round = 0; round < 2; round++) {
            hall.freeze(0);
            for (int team = 7; team >= 0; team--) {
                for (int problem = 0; problem < 6; problem++) {
                    Check.due("reveal, round " + round, 10 * team + problem, hall.reveal());
                }
            }
            Check.due("no more, round " + round, NONE, hall.reveal());
        }
    }

    /** "with an entry of that minute or later" */
    private static void revealsWhatIsLate() {
        RejudgeHall hall = Check.echoHall(6);
        for (int problem = 0; problem < 6; problem++) {
            Check.enterWrong(hall, 1, problem);
            hall.pass(1);
        }
        Check.enterWrong(hall, 1, 2);
        Check.judgeAll(hall);
        hall.freeze(4);
        int[] due = {12, 14, 15, NONE};
        for (int pair : due) {
            Check.due("from 4 on, and the one of 6", pair, hall.reveal());
        }
        hall.freeze(6);
        Check.due("the one of 6", 12, hall.reveal());
        Check.due("no more", NONE, hall.reveal());
        hall.freeze(7);
        Check.due("none from 7 on", NONE, hall.reveal());
    }

    /** "that has a verdict" */
    private static void revealsWhatHasAVerdict() {
        RejudgeHall hall = Check.echoHall(2);
        hall.freeze(0);
        Check.enterRight(hall, 1, 0);
        Check.enterRight(hall, 1, 1);
        Check.due("both wait", NONE, hall.reveal());
        hall.judge();
        Check.due("one is judged", 10, hall.reveal());
        Check.due("the other one waits", NONE, hall.reveal());
        hall.judge();
        hall.mend(1, EXACT);
        hall.rejudge(1);
        Check.due("it waits again", NONE, hall.reveal());
        hall.judge();
        Check.due("it is judged", 11, hall.reveal());
        Check.enterRight(hall, 2, 0);
        Check.enterWrong(hall, 2, 0);
        hall.judge();
        Check.due("a pair with one judged, one that waits", 20, hall.reveal());
        hall.judge();
        Check.due("revealed with all of it", NONE, hall.reveal());
    }

    /** "such a pair not revealed": each once, later entries of it are revealed too. */
    private static void revealsOnceEach() {
        RejudgeHall hall = Check.echoHall(2);
        hall.freeze(1);
        hall.pass(1);
        Check.enterWrong(hall, 3, 1);
        Check.judgeAll(hall);
        Check.due("the pair", 31, hall.reveal());
        hall.pass(1);
        Check.enterRight(hall, 3, 1);
        Check.enterRight(hall, 3, 0);
        Check.enterRight(hall, 4, 1);
        Check.judgeAll(hall);
        row("the revealed pair alone", hall, 3, true, 0, 1, 22, 2);
        row("the same problem of another team", hall, 4, true, 4, 0, 0, 0);
        Check.due("team 4 is behind", 41, hall.reveal());
        Check.due("the other problem", 30, hall.reveal());
        Check.due("no more", NONE, hall.reveal());
        row("all of it", hall, 3, true, 0, 2, 24, 2);
    }

    /** "of the team that is at the last place, of those that have such a pair": on the board as it is by then. */
    private static void revealsByTheOrderOfNow() {
        RejudgeHall hall = Check.echoHall(3);
        Check.enterRight(hall, 5, 0);
        hall.pass(10);
        for (int problem = 0; problem < 3; problem++) {
            Check.enterRight(hall, 6, problem);
        }
        Check.enterRight(hall, 5, 1);
        Check.enterWrong(hall, 1, 2);
        Check.judgeAll(hall);
        hall.freeze(10);
        places("frozen", hall, true, 5, 0, 1, 2, 3, 4, 6, 7);
        int[] due = {60, 12, 61, 51, 62, NONE};
        int[][] after = {{5, 6}, {5, 6}, {6, 5}, {5, 6}, {6, 5}, {6, 5}};
        for (int i = 0; i < due.length; i++) {
            Check.due("reveal " + i, due[i], hall.reveal());
            places("after it " + i, hall, true, after[i]);
        }
    }

    /** "in place of what was told; nothing is revealed then" */
    private static void inPlaceOfWhatWasTold() {
        int[] then = {3, 4, 5, 6, 7, NONE};
        int[] reveals = {20, 20, 21, 22, NONE, NONE};
        for (int i = 0; i < then.length; i++) {
            RejudgeHall hall = minutes4To6();
            hall.freeze(5);
            Check.due("one", 21, hall.reveal());
            Check.due("another", 22, hall.reveal());
            hall.freeze(then[i]);
            Check.due("then, frozen from " + then[i], reveals[i], hall.reveal());
        }
        RejudgeHall hall = minutes4To6();
        hall.freeze(5);
        hall.reveal();
        Check.fails("a refused freeze", Check.ARGUMENT, () -> hall.freeze(10000));
        row("what was revealed is so still", hall, 2, true, 0, 2, 9, 5);
        hall.freeze(5);
        row("the same minute again", hall, 2, true, 0, 1, 4, 4);
    }

    /** A revealed pair stays so as its entries are judged again. */
    private static void revealedPairsStay() {
        RejudgeHall hall = minutes4To6();
        hall.freeze(4);
        Check.due("one", 20, hall.reveal());
        hall.mend(0, EXACT);
        hall.rejudge(0);
        row("it waits", hall, 2, true, 2, 0, 0, 0);
        hall.judge();
        row("it is judged", hall, 2, true, 0, 1, 4, 4);
        Check.due("the next one", 21, hall.reveal());
    }

    /** "if all entries were judged by now" */
    private static void anewAllAreJudged() {
        RejudgeHall hall = Check.echoHall(1);
        Check.enterWrong(hall, 3, 0);
        Check.due("a wrong one that waits", 3, hall.placeAnew(3));
        hall.pass(5);
        Check.enterRight(hall, 3, 0);
        Check.due("a right one that waits", 0, hall.placeAnew(3));
        hall.pass(19);
        Check.enterRight(hall, 5, 0);
        Check.due("24 is ahead of 25", 0, hall.placeAnew(5));
        Check.due("25 is behind", 1, hall.placeAnew(3));
        Check.enterRight(hall, 2, 0);
        Check.due("24 by a lower number", 0, hall.placeAnew(2));
        Check.due("all wait still", 3, hall.board(3, false, 0));
        Check.judgeAll(hall);
        int[] order = {2, 5, 3, 0, 1, 4, 6, 7};
        for (int place = 0; place < 8; place++) {
            Check.due("anew", place, hall.placeAnew(order[place]));
        }
        places("as all are judged", hall, false, order);
    }

    /** "by the versions of now" */
    private static void anewByTheVersionsOfNow() {
        RejudgeHall hall = Check.echoHall(1);
        Check.constant(hall, 6);
        hall.enter(4, 0);
        hall.pass(1);
        Check.enterRight(hall, 6, 0);
        Check.judgeAll(hall);
        Check.due("so far", 0, hall.placeAnew(6));
        hall.mend(0, NEAR);
        Check.due("by the mended checker", 0, hall.placeAnew(4));
        Check.due("the board stays", 0, hall.board(6, false, 0));
        Check.constant(hall, 7);
        hall.mend(0, NEAR);
        Check.due("by the mended solution", 6, hall.placeAnew(6));
        Check.due("6 is near 7", 0, hall.placeAnew(4));
        hall.mend(0, EXACT);
        Check.due("none is right", 4, hall.placeAnew(4));
        Check.echo(hall);
        hall.mend(0, EXACT);
        hall.input(1);
        hall.test(0, 0);
        Check.due("by the tests of now", 0, hall.placeAnew(6));
        hall.rejudge(0);
        Check.judgeAll(hall);
        Check.due("as it is then", 0, hall.board(6, false, 0));
    }

    /** "without freezing" */
    private static void anewWithoutFreezing() {
        RejudgeHall hall = minutes4To6();
        hall.freeze(0);
        Check.due("on the frozen one", 2, hall.board(2, true, 0));
        Check.due("anew", 0, hall.placeAnew(2));
        Check.due("the others", 1, hall.placeAnew(0));
        Check.due("nothing is revealed by it", 20, hall.reveal());
    }

    private static void boardAndPlaceAnewOnlyLook() {
        for (int what = 0; what < 5; what++) {
            int asked = what;
            Twins.unchanged("board, what " + what, Twins::busy, hall -> hall.board(2, false, asked));
            Twins.unchanged("frozen board, what " + what, Twins::busy, hall -> hall.board(2, true, asked));
        }
        Twins.unchanged("placeAnew", Twins::busy, hall -> hall.placeAnew(3));
        Twins.unchanged("placeAnew of a full hall", Twins::full, hall -> hall.placeAnew(7));
    }
}
