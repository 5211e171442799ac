/** Terms: how a JOB ENDS, and a STEP: whose turn it is, who is there no more, and what throwing 5 does. */
public final class TermsStepTest {
    public static void main(String[] args) {
        oneMoreIsCounted();
        theNextOfAFailedJobIsLeft();
        aNextThatIsNotNewIsLeft();
        aNextThatIsNewIsSubmitted();
        whoComesInTheStepHasNoTurn();
        whoTakesTheJobOfACrashedOneHasNoTurn();
        turnsGoInOrder();
        anIdleWorkerThatGetsAJobBeforeItsTurnWorks();
        anIdleWorkerThatGetsAJobAfterItsTurnWaits();
        theWorkerCountsAsBusyWhileItsJobEnds();
        throwingFiveSendsTheWorkerAway();
        throwingFiveBringsANewWorkerIfTheQueueHasAJob();
        theOthersMoveUpAndHaveOneTurnEach();
        throwingAnythingElseKeepsTheWorker();
        theWorkerTakesTheFirstOfTheQueueOrIsIdle();
        idleFromNowOn();
        Check.end();
    }

    /** "one more is counted": DONE or FAILED, at the end of its units or at once, but not CANCELLED or REFUSED. */
    private static void oneMoreIsCounted() {
        WorkHall hall = Check.withEveryState(0, 7, 0);
        Check.same("DONE and FAILED", hall.count(6), 2);
        Check.same("two STEPS", hall.step(2), 1);
        Check.same("one more", hall.count(6), 3);
        hall.cancel(2, true);
        Check.same("a CANCELLED one is not", hall.count(6), 3);
    }

    /** "if it is DONE and has a NEXT": FAILED by each thing that it can throw. */
    private static void theNextOfAFailedJobIsLeft() {
        int[][] failing = {{1, 1, 0}, {2, 5, 0}, {3, 0, 0}, {4, 7, 0}, {5, 0, 0}};
        for (int[] kind : failing) {
            WorkHall hall = Check.withEveryState(kind[0], kind[1], kind[2]);
            hall.then(7, 0);
            hall.cancel(1, false);
            Check.same("it ENDS", hall.step(2), 1);
            Check.same("it threw", hall.about(7, 4), kind[0]);
            Check.same("its NEXT", Check.state(hall, 0), 0);
            Check.same("its NEXT is still that", hall.about(7, 2), 0);
        }
    }

    /** "a NEXT that is NEW": none of the other STATES changes, though the QUEUE has room. */
    private static void aNextThatIsNotNewIsLeft() {
        for (int next = 2; next <= 6; next++) {
            WorkHall hall = Check.withEveryState(0, 7, 0);
            hall.cancel(1, false);
            hall.then(7, next);
            Check.same("it ENDS", hall.step(2), 1);
            Check.same("NEXT " + next, Check.state(hall, next), next);
        }
        WorkHall hall = Check.withEveryState(0, 7, 0);
        hall.then(7, 1);
        hall.step(2);
        Check.same("a QUEUED NEXT is taken once", hall.about(1, 3), 1);
        Check.same("the QUEUE is empty", hall.count(3), 0);
    }

    private static void aNextThatIsNewIsSubmitted() {
        WorkHall hall = Check.withEveryState(0, 7, 0);
        hall.then(7, 0);
        hall.cancel(1, false);
        hall.step(2);
        Check.same("it went through the QUEUE", hall.about(0, 3), 1);
        WorkHall full = Check.withEveryState(0, 7, 0);
        full.then(7, 0);
        full.step(2);
        Check.same("no room for it", Check.state(full, 0), 6);
    }

    /** "each WORKER that is there when it begins" */
    private static void whoComesInTheStepHasNoTurn() {
        WorkHall hall = new WorkHall(1, 3, 0, 0);
        int first = Check.value(hall, 1);
        int second = Check.value(hall, 1);
        int third = Check.value(hall, 1);
        hall.then(first, second);
        hall.then(second, third);
        hall.submit(first);
        Check.same("one STEP", hall.step(1), 1);
        Check.same("the new WORKER has all units", hall.worker(1), 1);
        Check.same("the next STEP", hall.step(1), 1);
        Check.same("the first is IDLE again and has the third", hall.about(third, 3), 0);
    }

    /** The same for "a new WORKER takes the first of it". */
    private static void whoTakesTheJobOfACrashedOneHasNoTurn() {
        WorkHall hall = new WorkHall(1, 1, 4, 0);
        for (int i = 0; i < 5; i++) {
            hall.submit(Check.crash(hall, 1));
        }
        for (int left = 3; left >= 0; left--) {
            Check.same("one crash a STEP", hall.step(1), 1);
            Check.same("in the QUEUE", hall.count(3), left);
            Check.same("one WORKER", hall.count(1), 1);
        }
        Check.same("the last crash", hall.step(1), 1);
        Check.same("no WORKER", hall.count(1), 0);
        Check.same("never two", hall.count(7), 1);
    }

    /** "in order": a SUM by a later WORKER finds the RESULT of an earlier one, not the other way round. */
    private static void turnsGoInOrder() {
        WorkHall hall = new WorkHall(3, 3, 0, 0);
        int early = hall.job(3, 1, 1, 1);
        int value = Check.value(hall, 1);
        int late = hall.job(3, value, value, 1);
        hall.submit(early);
        hall.submit(value);
        hall.submit(late);
        Check.same("all END", hall.step(1), 3);
        Check.same("the SUM before", hall.about(early, 4), 3);
        Check.same("the SUM behind", hall.get(late), 14);
    }

    /** "if it is .. BUSY when it is its turn" */
    private static void anIdleWorkerThatGetsAJobBeforeItsTurnWorks() {
        WorkHall hall = new WorkHall(2, 2, 0, 0);
        int next = Check.value(hall, 3);
        int first = Check.value(hall, 2);
        hall.then(first, next);
        hall.submit(first);
        hall.submit(Check.value(hall, 1));
        hall.step(1);
        Check.same("the second WORKER is IDLE", hall.worker(1), 0);
        hall.step(1);
        Check.same("it has the NEXT", hall.about(next, 3), 1);
        Check.same("one unit less", hall.worker(1), 2);
    }

    private static void anIdleWorkerThatGetsAJobAfterItsTurnWaits() {
        WorkHall hall = new WorkHall(2, 2, 0, 0);
        int next = Check.value(hall, 3);
        int second = Check.value(hall, 2);
        hall.then(second, next);
        hall.submit(Check.value(hall, 1));
        hall.submit(second);
        hall.step(2);
        Check.same("the first WORKER has the NEXT", hall.about(next, 3), 0);
        Check.same("with all units", hall.worker(0), 3);
    }

    /** "(the WORKER counts as BUSY so long)": neither a NEXT nor a FORK finds it IDLE. */
    private static void theWorkerCountsAsBusyWhileItsJobEnds() {
        WorkHall refusing = new WorkHall(1, 1, 0, 0);
        int next = Check.value(refusing, 1);
        int first = Check.value(refusing, 1);
        refusing.then(first, next);
        refusing.submit(first);
        refusing.step(1);
        Check.same("a NEXT is REFUSED", Check.state(refusing, next), 6);
        Check.same("the WORKER is IDLE then", refusing.count(2), 0);
        WorkHall queueing = new WorkHall(1, 1, 1, 0);
        int target = Check.value(queueing, 1);
        int fork = Check.fork(queueing, target, 1);
        queueing.submit(fork);
        queueing.step(1);
        Check.same("a FORK found the QUEUE", queueing.get(fork), 1);
        Check.same("the WORKER took it from there", queueing.delay(), 0.0);
        Check.same("it is RUNNING", Check.state(queueing, target), 2);
    }

    /** "If that threw 5 the WORKER is there no more": even if fewer than CORE are left. */
    private static void throwingFiveSendsTheWorkerAway() {
        WorkHall hall = new WorkHall(3, 3, 4, 0);
        hall.submit(Check.value(hall, 5));
        hall.submit(Check.crash(hall, 1));
        hall.submit(Check.value(hall, 4));
        Check.same("the crash", hall.step(1), 1);
        Check.same("WORKERS", hall.count(1), 2);
        Check.same("the one before", hall.worker(0), 4);
        Check.same("the one behind moved up", hall.worker(1), 3);
        Check.refused("the place behind", Check.NO_ELEMENT, () -> hall.worker(2));
        hall.submit(Check.value(hall, 5));
        Check.same("fewer than CORE: a new one is last", hall.about(3, 3), 2);
    }

    /** "and if the QUEUE has a JOB a new WORKER takes the first of it" */
    private static void throwingFiveBringsANewWorkerIfTheQueueHasAJob() {
        WorkHall hall = new WorkHall(2, 2, 2, 0);
        hall.submit(Check.crash(hall, 1));
        hall.submit(Check.value(hall, 5));
        hall.submit(Check.value(hall, 3));
        hall.submit(Check.value(hall, 4));
        hall.tick(6.0);
        hall.step(1);
        Check.same("the new one is last", hall.about(2, 3), 1);
        Check.same("with all units", hall.worker(1), 3);
        Check.same("the QUEUE goes on", hall.about(3, 3), 0);
        Check.same("how long it was there", hall.delay(), 6.0);
        Check.same("never three", hall.count(7), 2);
    }

    private static void theOthersMoveUpAndHaveOneTurnEach() {
        WorkHall hall = new WorkHall(3, 5, 0, 0);
        for (int i = 0; i < 5; i++) {
            hall.submit(i % 2 == 0 ? Check.crash(hall, 1) : Check.value(hall, 5));
        }
        Check.same("three crash", hall.step(1), 3);
        Check.same("WORKERS", hall.count(1), 2);
        Check.same("one unit less", hall.worker(0), 4);
        Check.same("one unit less", hall.worker(1), 4);
        Check.same("place of the second", hall.about(1, 3), 0);
        Check.same("place of the fourth", hall.about(3, 3), 1);
    }

    /** "Else": throwing 1 to 4 is like ending well, and so is a FORK of a JOB that throws 5 at once. */
    private static void throwingAnythingElseKeepsTheWorker() {
        int[][] failing = {{1, 1, 0}, {2, 5, 0}, {3, 0, 0}, {4, 0, 0}};
        for (int[] kind : failing) {
            WorkHall hall = new WorkHall(1, 1, 1, 0);
            hall.submit(hall.job(kind[0], kind[1], kind[2], 1));
            hall.submit(Check.value(hall, 4));
            Check.same("it ENDS", hall.step(1), 1);
            Check.same("it threw", hall.about(0, 4), kind[0]);
            Check.same("its WORKER took the next", hall.worker(0), 4);
        }
        WorkHall hall = new WorkHall(1, 1, 0, 3);
        int crash = Check.crash(hall, 1);
        hall.submit(Check.fork(hall, crash, 1));
        Check.same("both END", hall.step(1), 2);
        Check.same("the WORKER stays", hall.count(1), 1);
    }

    /** "Else the WORKER takes the first JOB of the QUEUE, or is IDLE" */
    private static void theWorkerTakesTheFirstOfTheQueueOrIsIdle() {
        WorkHall hall = new WorkHall(1, 1, 2, 0);
        hall.submit(Check.value(hall, 1));
        hall.submit(Check.value(hall, 2));
        hall.submit(Check.value(hall, 1));
        hall.step(1);
        Check.same("it is RUNNING", Check.state(hall, 1), 2);
        Check.same("its COST is left", hall.worker(0), 2);
        Check.same("one is left in the QUEUE", hall.count(3), 1);
        hall.step(3);
        Check.same("IDLE", hall.worker(0), 0);
        Check.same("none BUSY", hall.count(2), 0);
        Check.same("the WORKER is there", hall.count(1), 1);
    }

    /** "or is IDLE from now on": not from when it came, nor from the TIME of an earlier JOB. */
    private static void idleFromNowOn() {
        WorkHall hall = new WorkHall(0, 1, 0, 0);
        hall.submit(Check.value(hall, 1));
        hall.tick(5.0);
        hall.step(1);
        hall.tick(19.5);
        hall.submit(Check.value(hall, 1));
        hall.tick(3.0);
        hall.step(1);
        hall.tick(19.5);
        Check.same("19.5 since its last JOB", hall.count(1), 1);
        hall.tick(0.5);
        Check.same("20.0 since its last JOB", hall.count(1), 0);
    }
}
