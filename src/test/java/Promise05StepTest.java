/** Promise 5: STEPS, what workers do in them, and how crashed ones are replaced. */
public final class Promise05StepTest {
    public static void main(String[] args) {
        wrongNumbers();
        asManyStepsAsAsked();
        howManyEndedInThem();
        unitsGoDown();
        jobsOfTheQueueAreTaken();
        newWorkersWaitForTheNextStep();
        idleWorkersThatGetAJobWorkInTheSameStep();
        otherFailuresCostNoWorker();
        aCrashWithoutQueue();
        aCrashWithQueue();
        afterACrashTheOthersHaveTheirTurn();
        aFullPoolCrashes();
        forks();
        jobsPerformedAtOnceAreCounted();
        aClosingPoolEndsAfterTheLast();
        Check.end();
    }

    private static void wrongNumbers() {
        WorkHall hall = new WorkHall(1, 1, 1, 0);
        hall.submit(Check.value(hall, 1));
        for (int n : new int[] {0, 11, -1, Integer.MIN_VALUE, Integer.MAX_VALUE}) {
            Check.refused("step(" + n + ")", Check.ARGUMENT, () -> hall.step(n));
        }
        Check.same("nothing was done", hall.worker(0), 1);
        Check.same("step(1)", hall.step(1), 1);
        Check.same("step(10)", hall.step(10), 0);
    }

    /** "n 1 .. 10 STEPS." */
    private static void asManyStepsAsAsked() {
        for (int n = 1; n <= 10; n++) {
            WorkHall hall = new WorkHall(1, 1, 2, 0);
            for (int i = 0; i < 3; i++) {
                hall.submit(Check.value(hall, 5));
            }
            Check.same("step(" + n + ")", hall.step(n), n / 5);
            Check.same("units left after step(" + n + ")", hall.worker(0), 5 - n % 5);
        }
    }

    /** "Answers how many JOBS ENDED in them.": none, and not those before. */
    private static void howManyEndedInThem() {
        WorkHall hall = new WorkHall(3, 5, 4, 3);
        Check.same("without WORKERS", hall.step(10), 0);
        for (int i = 0; i < 9; i++) {
            hall.submit(Check.value(hall, 1));
        }
        hall.submit(Check.value(hall, 1));
        Check.same("one ENDED at once", hall.count(6), 1);
        Check.same("five in one STEP", hall.step(1), 5);
        Check.same("four in the next", hall.step(1), 4);
        Check.same("all IDLE", hall.step(10), 0);
        Check.same("in all", hall.count(6), 10);
    }

    private static void unitsGoDown() {
        WorkHall hall = new WorkHall(2, 2, 0, 0);
        hall.submit(Check.value(hall, 5));
        hall.submit(Check.value(hall, 3));
        Check.same("step(2)", hall.step(2), 0);
        Check.same("worker(0)", hall.worker(0), 3);
        Check.same("worker(1)", hall.worker(1), 1);
        Check.same("step(10)", hall.step(10), 2);
        Check.same("count(6)", hall.count(6), 2);
    }

    private static void jobsOfTheQueueAreTaken() {
        WorkHall hall = new WorkHall(1, 1, 3, 0);
        for (int i = 0; i < 4; i++) {
            hall.submit(Check.value(hall, 1 + i));
        }
        Check.same("the first step", hall.step(1), 1);
        Check.same("the next job has all its units", hall.worker(0), 2);
        Check.same("it is RUNNING", Check.state(hall, 1), 2);
        Check.same("the QUEUE goes on", hall.about(2, 3), 0);
        Check.same("the rest", hall.step(9), 3);
    }

    private static void newWorkersWaitForTheNextStep() {
        WorkHall hall = new WorkHall(2, 2, 0, 0);
        int value = Check.value(hall, 1);
        int fork = Check.fork(hall, value, 1);
        hall.submit(fork);
        Check.same("the first step", hall.step(1), 1);
        Check.same("the new worker was not at work", hall.worker(1), 1);
        Check.same("the second step", hall.step(1), 1);
    }

    private static void idleWorkersThatGetAJobWorkInTheSameStep() {
        WorkHall hall = new WorkHall(2, 2, 0, 0);
        int value = Check.value(hall, 1);
        int fork = Check.fork(hall, value, 2);
        int first = Check.value(hall, 1);
        hall.submit(fork);
        hall.submit(first);
        Check.same("step(1)", hall.step(1), 1);
        Check.same("the FORK and what it forked", hall.step(1), 2);
        Check.same("the result of the FORK", hall.get(fork), 2);
    }

    private static void otherFailuresCostNoWorker() {
        int[][] failing = {{1, 1, 0}, {2, 9, 0}, {3, 0, 0}, {4, 0, 0}};
        for (int[] kind : failing) {
            WorkHall hall = new WorkHall(1, 1, 1, 0);
            hall.submit(hall.job(kind[0], kind[1], kind[2], 1));
            Check.same("KIND " + kind[0] + " ends", hall.step(1), 1);
            Check.same("it is FAILED", Check.state(hall, 0), 4);
            Check.same("its worker stays", hall.worker(0), 0);
        }
    }

    private static void aCrashWithoutQueue() {
        WorkHall hall = new WorkHall(1, 1, 1, 0);
        hall.submit(Check.crash(hall, 2));
        Check.same("before", hall.step(1), 0);
        Check.same("the crash", hall.step(1), 1);
        Check.same("workers", hall.count(1), 0);
        Check.same("it is FAILED", Check.state(hall, 0), 4);
    }

    private static void aCrashWithQueue() {
        WorkHall hall = new WorkHall(2, 2, 2, 0);
        int crash = Check.crash(hall, 1);
        hall.submit(crash);
        hall.submit(Check.value(hall, 5));
        hall.submit(Check.value(hall, 3));
        hall.submit(Check.value(hall, 2));
        Check.same("the crash", hall.step(1), 1);
        Check.same("workers", hall.count(1), 2);
        Check.same("the other has moved up", hall.worker(0), 4);
        Check.same("the new one has not worked", hall.worker(1), 3);
        Check.same("it has the first of the QUEUE", hall.about(2, 3), 1);
        Check.same("the QUEUE", hall.about(3, 3), 0);
        Check.same("never more than", hall.count(7), 2);
        Check.same("taking it was counted", hall.delay(), 0.0);
    }

    private static void afterACrashTheOthersHaveTheirTurn() {
        WorkHall hall = new WorkHall(3, 3, 2, 0);
        hall.submit(Check.crash(hall, 1));
        hall.submit(Check.crash(hall, 1));
        hall.submit(Check.value(hall, 2));
        hall.submit(Check.crash(hall, 1));
        Check.same("two crash", hall.step(1), 2);
        Check.same("workers", hall.count(1), 2);
        Check.same("the third had its turn", hall.worker(0), 1);
        Check.same("the new one had none", hall.worker(1), 1);
        Check.same("both end", hall.step(1), 2);
        Check.same("one is left", hall.count(1), 1);
    }

    private static void aFullPoolCrashes() {
        WorkHall hall = new WorkHall(3, 5, 4, 0);
        for (int i = 0; i < 9; i++) {
            hall.submit(Check.crash(hall, 1));
        }
        Check.same("five crash", hall.step(1), 5);
        Check.same("four are new", hall.count(1), 4);
        Check.same("the QUEUE is empty", hall.count(3), 0);
        Check.same("four crash", hall.step(1), 4);
        Check.same("none is left", hall.count(1), 0);
        Check.same("the most that were there", hall.count(7), 5);
    }

    private static void forks() {
        WorkHall hall = new WorkHall(1, 1, 1, 0);
        int waiting = Check.value(hall, 2);
        int refused = Check.value(hall, 2);
        int fork = Check.fork(hall, waiting, 1);
        int second = Check.fork(hall, refused, 1);
        hall.submit(fork);
        Check.same("the FORK", hall.step(1), 1);
        Check.same("it was QUEUED then", hall.get(fork), 1);
        Check.same("and is RUNNING now", Check.state(hall, waiting), 2);
        hall.submit(second);
        hall.step(2);
        hall.submit(Check.value(hall, 1));
        Check.same("the second FORK and the value", hall.step(2), 2);
        Check.same("a refused FORK throws", hall.about(second, 4), 4);
        Check.same("what it forked", Check.state(hall, refused), 6);
        WorkHall itself = new WorkHall(1, 1, 1, 0);
        itself.submit(Check.fork(itself, 0, 1));
        itself.step(1);
        Check.same("a FORK of itself", itself.about(0, 4), 4);
    }

    private static void jobsPerformedAtOnceAreCounted() {
        WorkHall hall = new WorkHall(1, 1, 0, 3);
        int value = Check.value(hall, 1);
        int crash = Check.crash(hall, 1);
        int fork = Check.fork(hall, crash, 1);
        hall.then(fork, value);
        hall.submit(fork);
        Check.same("three in one step", hall.step(1), 3);
        Check.same("the crash at once takes no worker", hall.count(1), 1);
        Check.same("the result of the FORK", hall.get(fork), 4);
    }

    private static void aClosingPoolEndsAfterTheLast() {
        WorkHall hall = new WorkHall(1, 1, 1, 0);
        int value = Check.value(hall, 1);
        int fork = Check.fork(hall, 3, 1);
        int crash = Check.crash(hall, 1);
        int other = Check.value(hall, 1);
        hall.then(value, other);
        hall.submit(crash);
        hall.submit(fork);
        hall.shut(false);
        Check.same("the crash", hall.step(1), 1);
        Check.same("a new worker even so", hall.about(fork, 3), 0);
        Check.same("still CLOSING", hall.count(5), 1);
        Check.same("the FORK", hall.step(1), 1);
        Check.same("it throws", hall.about(fork, 4), 4);
        Check.same("what it forked is REFUSED", Check.state(hall, other), 6);
        Check.same("ENDED", hall.count(5), 2);
        Check.same("no workers", hall.count(1), 0);
        Check.same("step of an ENDED pool", hall.step(10), 0);
    }
}
