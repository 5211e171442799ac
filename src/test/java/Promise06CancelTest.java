/** Promise 6: cancel. */
public final class Promise06CancelTest {
    public static void main(String[] args) {
        wrongJobs();
        eachState();
        newJobs();
        queuedJobs();
        aFullQueue();
        runningJobs();
        theWorkerTakesTheNextOfTheQueue();
        jobsThatAreOver();
        cancellingTheLastEndsAClosingPool();
        Check.end();
    }

    private static void wrongJobs() {
        WorkHall hall = new WorkHall(1, 1, 1, 0);
        Check.refused("cancel(-1)", Check.ARGUMENT, () -> hall.cancel(-1, true));
        Check.refused("cancel(24)", Check.ARGUMENT, () -> hall.cancel(24, true));
        Check.refused("cancel(0)", Check.NO_ELEMENT, () -> hall.cancel(0, true));
        Check.refused("cancel(23)", Check.NO_ELEMENT, () -> hall.cancel(23, false));
    }

    /** "NEW or QUEUED .. RUNNING, and hard .. Else UnsupportedOperationException. Answers the STATE before." */
    private static void eachState() {
        String no = "UnsupportedOperationException";
        Object[] soft = {0, 1, no, no, no, no, no};
        Object[] hard = {0, 1, 2, no, no, no, no};
        for (int state = 0; state <= 6; state++) {
            int job = state;
            WorkHall softly = Check.withEveryState(0, 7, 0);
            Check.same("soft, STATE " + state, Check.answer(() -> softly.cancel(job, false)), soft[state]);
            Check.same("soft, then", Check.state(softly, job), soft[state] == no ? state : 5);
            WorkHall firmly = Check.withEveryState(0, 7, 0);
            Check.same("hard, STATE " + state, Check.answer(() -> firmly.cancel(job, true)), hard[state]);
            Check.same("hard, then", Check.state(firmly, job), hard[state] == no ? state : 5);
            Check.refused("once more", Check.UNSUPPORTED, () -> firmly.cancel(job, true));
        }
    }

    private static void newJobs() {
        WorkHall hall = new WorkHall(1, 1, 1, 0);
        Check.same("soft", hall.cancel(Check.value(hall, 1), false), 0);
        Check.same("hard", hall.cancel(Check.value(hall, 1), true), 0);
        Check.same("both", Check.state(hall, 0) + Check.state(hall, 1), 10);
        Check.refused("submit", Check.STATE, () -> hall.submit(0));
    }

    private static void queuedJobs() {
        WorkHall hall = new WorkHall(1, 1, 3, 0);
        for (int i = 0; i < 4; i++) {
            hall.submit(Check.value(hall, 1));
        }
        Check.same("the middle one", hall.cancel(2, false), 1);
        Check.same("its STATE", Check.state(hall, 2), 5);
        Check.same("its place", hall.about(2, 3), -1);
        Check.same("the one before", hall.about(1, 3), 0);
        Check.same("the one behind", hall.about(3, 3), 1);
        Check.same("hard", hall.cancel(1, true), 1);
        Check.same("in the QUEUE", hall.count(3), 1);
        Check.same("the rest ends", hall.step(5), 2);
        Check.same("cancelled ones add no delay", hall.delay(), 0.0);
    }

    private static void aFullQueue() {
        WorkHall hall = new WorkHall(1, 1, 4, 0);
        for (int i = 0; i < 5; i++) {
            hall.submit(Check.value(hall, 1));
        }
        Check.same("the first of four", hall.cancel(1, false), 1);
        Check.same("the last of three", hall.about(4, 3), 2);
        Check.same("cancel the last", hall.cancel(4, false), 1);
        Check.same("in the QUEUE", hall.count(3), 2);
    }

    private static void runningJobs() {
        WorkHall hall = Check.full(0);
        Check.refused("soft", Check.UNSUPPORTED, () -> hall.cancel(0, false));
        Check.same("it goes on", hall.worker(0), 5);
        Check.same("hard", hall.cancel(0, true), 2);
        Check.same("its STATE", Check.state(hall, 0), 5);
        Check.same("its worker is IDLE", hall.worker(0), 0);
        Check.same("none is BUSY", hall.count(2), 0);
        Check.same("the worker is there", hall.count(1), 1);
        Check.same("it did not end", hall.count(6), 0);
    }

    private static void theWorkerTakesTheNextOfTheQueue() {
        WorkHall hall = new WorkHall(2, 2, 2, 0);
        for (int i = 0; i < 4; i++) {
            hall.submit(Check.value(hall, 2 + i));
        }
        hall.tick(3.0);
        Check.same("hard", hall.cancel(1, true), 2);
        Check.same("its worker has the first of the QUEUE", hall.about(2, 3), 1);
        Check.same("with all its units", hall.worker(1), 4);
        Check.same("the QUEUE", hall.about(3, 3), 0);
        Check.same("the delay", hall.delay(), 3.0);
    }

    private static void jobsThatAreOver() {
        WorkHall hall = Check.withJobsThatAreOver();
        for (int i = 1; i <= 4; i++) {
            int job = i;
            int state = Check.state(hall, job);
            Check.refused("hard, " + job, Check.UNSUPPORTED, () -> hall.cancel(job, true));
            Check.refused("soft, " + job, Check.UNSUPPORTED, () -> hall.cancel(job, false));
            Check.same("STATE of " + job, Check.state(hall, job), state);
        }
    }

    private static void cancellingTheLastEndsAClosingPool() {
        WorkHall hall = Check.full(0);
        hall.clock(0, 5.0, 1.0);
        hall.shut(false);
        hall.cancel(0, true);
        Check.same("the pool is ENDED", hall.count(5), 2);
        Check.same("without workers", hall.count(1), 0);
        Check.same("without entries", hall.count(4), 0);
        WorkHall queued = new WorkHall(0, 1, 1, 0);
        queued.submit(Check.value(queued, 1));
        queued.shut(false);
        Check.same("CLOSING with a QUEUED job alone", queued.count(5), 1);
        queued.cancel(0, false);
        Check.same("ENDED without it", queued.count(5), 2);
    }
}
