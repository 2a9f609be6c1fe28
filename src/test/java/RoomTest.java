import com.sun.management.ThreadMXBean;
import java.lang.management.ManagementFactory;

/** What a run of calls makes stays small: the calls that only look, judge or reveal make nothing. */
public final class RoomTest {
    private static final int TEAMS = 8;
    /** As many as are left of the 512 calls of a hall. */
    private static final int ROUNDS = 18;
    private static final ThreadMXBean THREADS = (ThreadMXBean) ManagementFactory.getThreadMXBean();

    public static void main(String[] args) {
        measured();
        long before = THREADS.getCurrentThreadAllocatedBytes();
        RejudgeHall hall = fullHall();
        long made = THREADS.getCurrentThreadAllocatedBytes() - before;
        Check.due("a full hall is below 100000 bytes: " + made, true, made < 100000);
        long asked = measured();
        Check.due("asking makes below 10000 bytes: " + asked, true, asked < 10000);
        Check.due("the last entry is there", 5, hall.entry(59, 5));
        Check.end();
    }

    private static RejudgeHall fullHall() {
        RejudgeHall hall = new RejudgeHall();
        for (int problem = 0; problem < 6; problem++) {
            Check.echo(hall);
            hall.problem(500, RejudgeHall.EXACT);
            for (int test = 0; test < 12; test++) {
                hall.input(test % 5);
                hall.test(problem, test % 4);
            }
        }
        for (int entry = 0; entry < 60; entry++) {
            Check.echo(hall);
            hall.enter(entry % TEAMS, entry == 59 ? 5 : entry % 6);
        }
        return hall;
    }

    private static long measured() {
        RejudgeHall hall = fullHall();
        long before = THREADS.getCurrentThreadAllocatedBytes();
        for (int i = 0; i < ROUNDS; i++) {
            hall.judge();
            hall.run(500, i % 11);
            hall.entry(i, i % 7);
            hall.likeness(i, 59 - i);
            hall.board(i % TEAMS, true, i % 5);
            hall.placeAnew(i % TEAMS);
            hall.freeze(i / 9);
            hall.reveal();
            hall.rejudge(i % 6);
        }
        return THREADS.getCurrentThreadAllocatedBytes() - before;
    }
}
