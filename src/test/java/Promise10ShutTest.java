/** Promise 10: shut. */
public final class Promise10ShutTest {
    public static void main(String[] args) {
        anEmptyPoolEndsAtOnce();
        emptyAndFullQueues();
        softly();
        now();
        onlyOnce();
        theClockIsEmptied();
        Check.end();
    }

    private static void anEmptyPoolEndsAtOnce() {
        for (boolean now : new boolean[] {false, true}) {
            WorkHall hall = new WorkHall(1, 1, 1, 0);
            hall.submit(Check.value(hall, 1));
            hall.step(1);
            Check.same("an IDLE worker is there", hall.count(1), 1);
            Check.same("shut(" + now + ")", hall.shut(now), 0);
            Check.same("ENDED", hall.count(5), 2);
            Check.same("no workers", hall.count(1), 0);
            Check.same("the most that were there", hall.count(7), 1);
            Check.refused("worker(0)", Check.NO_ELEMENT, () -> hall.worker(0));
            Check.same("results stay", hall.get(0), 7);
        }
    }

    /** "now: all JOBS of the QUEUE and all that are RUNNING are CANCELLED .. Answers how many were CANCELLED." */
    private static void emptyAndFullQueues() {
        for (int room = 0; room <= 4; room++) {
            for (int most = 1; most <= 5; most++) {
                WorkHall now = filled(most, room);
                Check.same("now, " + room + " in the QUEUE, " + most + " BUSY", now.shut(true), most + room);
                Check.same("now, ENDED", now.count(5), 2);
                Check.same("now, WORKERS", now.count(1), 0);
                WorkHall later = filled(most, room);
                Check.same("not now, " + room + " in the QUEUE, " + most + " BUSY", later.shut(false), 0);
                Check.same("not now, CLOSING", later.count(5), 1);
                Check.same("not now, the QUEUE", later.count(3), room);
                Check.same("not now, BUSY", later.count(2), most);
                for (int job = 0; job < most + room; job++) {
                    Check.same("now, JOB " + job, Check.state(now, job), 5);
                    Check.same("not now, JOB " + job, Check.state(later, job) == 5, false);
                }
            }
        }
    }

    /** Each WORKER is BUSY, and the QUEUE is full. */
    private static WorkHall filled(int most, int room) {
        WorkHall hall = new WorkHall(0, most, room, 0);
        for (int i = 0; i < most + room; i++) {
            hall.submit(Check.value(hall, 5));
        }
        Check.same("BUSY", hall.count(2), most);
        Check.same("in the QUEUE", hall.count(3), room);
        return hall;
    }

    private static void softly() {
        WorkHall hall = new WorkHall(1, 1, 1, 0);
        hall.submit(Check.value(hall, 1));
        hall.submit(Check.value(hall, 1));
        Check.same("shut(false)", hall.shut(false), 0);
        Check.same("CLOSING", hall.count(5), 1);
        Check.same("one ends", hall.step(1), 1);
        Check.same("CLOSING still", hall.count(5), 1);
        Check.same("the other ends", hall.step(1), 1);
        Check.same("ENDED", hall.count(5), 2);
    }

    private static void now() {
        WorkHall hall = new WorkHall(2, 2, 2, 0);
        for (int i = 0; i < 4; i++) {
            hall.submit(Check.value(hall, 1 + i));
        }
        int fresh = Check.value(hall, 1);
        hall.step(1);
        Check.same("shut(true)", hall.shut(true), 3);
        int[] due = {3, 5, 5, 5};
        for (int job = 0; job < 4; job++) {
            Check.same("STATE of " + job, Check.state(hall, job), due[job]);
            Check.same("place of " + job, hall.about(job, 3), -1);
        }
        Check.same("a NEW job stays", Check.state(hall, fresh), 0);
        Check.same("ENDED", hall.count(5), 2);
        Check.same("the QUEUE", hall.count(3), 0);
        Check.same("BUSY", hall.count(2), 0);
        Check.same("nothing more ENDED", hall.count(6), 1);
        Check.same("step", hall.step(10), 0);
    }

    /** "It is not OPEN: IllegalStateException." */
    private static void onlyOnce() {
        WorkHall hall = Check.full(0);
        hall.shut(false);
        Check.refused("CLOSING, false", Check.STATE, () -> hall.shut(false));
        Check.refused("CLOSING, true", Check.STATE, () -> hall.shut(true));
        Check.same("the JOB is still RUNNING", Check.state(hall, 0), 2);
        hall.step(5);
        Check.refused("ENDED, false", Check.STATE, () -> hall.shut(false));
        Check.refused("ENDED, true", Check.STATE, () -> hall.shut(true));
    }

    private static void theClockIsEmptied() {
        WorkHall hall = Check.full(0);
        hall.clock(0, 9.0, 1.0);
        hall.shut(false);
        Check.same("CLOSING keeps ENTRIES", hall.due(), 9.0);
        hall.step(5);
        Check.same("ENDED has none", hall.count(4), 0);
        Check.refused("due", Check.NO_ELEMENT, () -> hall.due());
        Check.same("tick", hall.tick(100.0), 0);
    }
}
