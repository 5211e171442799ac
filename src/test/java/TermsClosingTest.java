/** Terms: "After each call: the POOL is CLOSING, the QUEUE is empty and no WORKER is BUSY: it is ENDED .." */
public final class TermsClosingTest {
    public static void main(String[] args) {
        anOpenPoolDoesNotEnd();
        aJobInTheQueueKeepsItClosing();
        aBusyWorkerKeepsItClosing();
        callsThatDoNotMatterKeepItClosing();
        endedByShut();
        endedByStep();
        endedByACrash();
        endedByCancel();
        endedHasNoWorkers();
        endedHasAnEmptyClock();
        endedStaysEnded();
        Check.end();
    }

    private static void anOpenPoolDoesNotEnd() {
        WorkHall hall = new WorkHall(1, 1, 1, 0);
        hall.submit(Check.value(hall, 1));
        hall.clock(0, 50.0, 0.0);
        hall.step(10);
        hall.tick(1.0);
        hall.cancel(Check.value(hall, 1), false);
        Check.same("OPEN, the QUEUE empty and none BUSY", hall.count(5), 0);
        Check.same("its WORKER", hall.count(1), 1);
        Check.same("its ENTRY", hall.count(4), 1);
    }

    /** "the QUEUE is empty": there is no WORKER at all, only a JOB in the QUEUE. */
    private static void aJobInTheQueueKeepsItClosing() {
        WorkHall hall = new WorkHall(0, 1, 2, 0);
        hall.submit(Check.value(hall, 1));
        hall.submit(Check.value(hall, 1));
        hall.shut(false);
        Check.same("CLOSING", hall.count(5), 1);
        hall.step(10);
        hall.tick(100.0);
        Check.same("CLOSING, nobody takes them", hall.count(5), 1);
        hall.cancel(0, false);
        Check.same("CLOSING, one is left", hall.count(5), 1);
        hall.cancel(1, false);
        Check.same("ENDED", hall.count(5), 2);
    }

    /** "no WORKER is BUSY" */
    private static void aBusyWorkerKeepsItClosing() {
        WorkHall hall = new WorkHall(2, 2, 0, 0);
        hall.submit(Check.value(hall, 1));
        hall.submit(Check.value(hall, 2));
        hall.shut(false);
        Check.same("CLOSING", hall.count(5), 1);
        hall.step(1);
        Check.same("CLOSING, one is BUSY", hall.count(5), 1);
        Check.same("the IDLE one is there too", hall.count(1), 2);
        hall.step(1);
        Check.same("ENDED", hall.count(5), 2);
    }

    private static void callsThatDoNotMatterKeepItClosing() {
        WorkHall hall = Check.full(0);
        hall.clock(0, 1.0, 1.0);
        hall.shut(false);
        hall.cancel(Check.value(hall, 1), true);
        int late = Check.value(hall, 1);
        Check.answer(() -> hall.submit(late));
        hall.then(0, late);
        hall.tick(0.5);
        Check.same("CLOSING", hall.count(5), 1);
        Check.same("its ENTRY is there", hall.due(), 1.0);
        Check.same("its WORKER too", hall.worker(0), 5);
    }

    private static void endedByShut() {
        for (boolean now : new boolean[] {false, true}) {
            WorkHall hall = new WorkHall(3, 5, 4, 0);
            hall.shut(now);
            Check.same("a new POOL, " + now, hall.count(5), 2);
        }
        WorkHall busy = new WorkHall(1, 1, 1, 0);
        busy.submit(Check.value(busy, 5));
        busy.submit(Check.value(busy, 5));
        busy.shut(true);
        Check.same("all CANCELLED", busy.count(5), 2);
    }

    private static void endedByStep() {
        WorkHall hall = new WorkHall(1, 1, 1, 0);
        hall.submit(Check.value(hall, 1));
        hall.submit(Check.value(hall, 1));
        hall.shut(false);
        Check.same("both in one call", hall.step(10), 2);
        Check.same("ENDED", hall.count(5), 2);
    }

    private static void endedByACrash() {
        WorkHall hall = new WorkHall(1, 1, 1, 0);
        hall.submit(Check.crash(hall, 1));
        hall.submit(Check.crash(hall, 1));
        hall.shut(false);
        hall.step(1);
        Check.same("CLOSING, a new WORKER has the other", hall.count(5), 1);
        hall.step(1);
        Check.same("ENDED", hall.count(5), 2);
    }

    private static void endedByCancel() {
        WorkHall hall = new WorkHall(1, 1, 1, 0);
        hall.submit(Check.value(hall, 5));
        hall.submit(Check.value(hall, 5));
        hall.shut(false);
        hall.cancel(0, true);
        Check.same("CLOSING, its WORKER took the other", hall.about(1, 3), 0);
        Check.same("CLOSING", hall.count(5), 1);
        hall.cancel(1, true);
        Check.same("ENDED", hall.count(5), 2);
    }

    /** "it is ENDED and has no WORKERS" */
    private static void endedHasNoWorkers() {
        WorkHall hall = new WorkHall(2, 2, 0, 0);
        hall.submit(Check.value(hall, 1));
        hall.submit(Check.value(hall, 2));
        hall.step(1);
        hall.shut(true);
        Check.same("WORKERS", hall.count(1), 0);
        Check.same("BUSY", hall.count(2), 0);
        Check.refused("worker(0)", Check.NO_ELEMENT, () -> hall.worker(0));
        Check.same("the place of the CANCELLED JOB", hall.about(1, 3), -1);
        Check.same("the most that were there", hall.count(7), 2);
    }

    /** "the CLOCK is empty": in a CLOSING POOL it is not. */
    private static void endedHasAnEmptyClock() {
        WorkHall hall = Check.full(0);
        for (int i = 0; i < 10; i++) {
            hall.clock(0, i, 1.0);
        }
        hall.shut(false);
        Check.same("ENTRIES when CLOSING", hall.count(4), 10);
        hall.step(5);
        Check.same("ENTRIES when ENDED", hall.count(4), 0);
        Check.refused("due", Check.NO_ELEMENT, () -> hall.due());
        Check.same("nothing fires", hall.tick(100.0), 0);
        Check.same("its JOB stays DONE", Check.state(hall, 0), 3);
    }

    private static void endedStaysEnded() {
        WorkHall hall = new WorkHall(1, 1, 1, 0);
        hall.shut(false);
        int job = Check.value(hall, 1);
        Check.answer(() -> hall.submit(job));
        hall.step(10);
        hall.tick(100.0);
        Check.refused("shut", Check.STATE, () -> hall.shut(true));
        Check.refused("clock", Check.STATE, () -> hall.clock(job, 0.0, 0.0));
        Check.same("ENDED", hall.count(5), 2);
    }
}
