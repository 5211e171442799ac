/** Promise 3: submit, the order of places for a job, the four policies, and what jobs do when performed at once. */
public final class Promise03SubmitTest {
    public static void main(String[] args) {
        wrongJobs();
        onlyNewJobs();
        refusedStaysSo();
        placesInTheirOrder();
        fewerThanCoreComesBeforeIdle();
        theFirstIdleWorkerIsTaken();
        aPoolWithoutCoreQueuesFirst();
        refusing();
        droppingTheJob();
        droppingTheFirst();
        performingAtOnce();
        crashingAtOnceCostsNoWorker();
        forkingAtOnce();
        forksOfTheOtherPolicies();
        aLongChainAtOnce();
        numbersBehindTheLastJob();
        closedPoolsRefuse();
        Check.end();
    }

    private static void wrongJobs() {
        WorkHall hall = new WorkHall(1, 1, 1, 0);
        int job = Check.value(hall, 1);
        Check.refused("submit(-1)", Check.ARGUMENT, () -> hall.submit(-1));
        Check.refused("submit(24)", Check.ARGUMENT, () -> hall.submit(24));
        Check.refused("submit(23)", Check.NO_ELEMENT, () -> hall.submit(23));
        Check.refused("submit(1)", Check.NO_ELEMENT, () -> hall.submit(1));
        Check.same("submit(0)", hall.submit(job), 2);
        Check.refused("submit of a RUNNING job", Check.STATE, () -> hall.submit(job));
        hall.step(1);
        Check.refused("submit of a DONE job", Check.STATE, () -> hall.submit(job));
    }

    /** "It is not NEW: IllegalStateException." */
    private static void onlyNewJobs() {
        WorkHall hall = Check.withEveryState(0, 7, 0);
        for (int state = 1; state <= 6; state++) {
            int job = state;
            Check.refused("submit, STATE " + state, Check.STATE, () -> hall.submit(job));
            Check.same("STATE " + state + " stays", Check.state(hall, job), state);
        }
    }

    /** "REFUSED: UnsupportedOperationException (and it stays so)": even when there is room again. */
    private static void refusedStaysSo() {
        WorkHall hall = Check.withEveryState(0, 7, 0);
        Check.refused("submit to a full pool", Check.UNSUPPORTED, () -> hall.submit(0));
        hall.step(10);
        Check.same("no WORKER is BUSY", hall.count(2), 0);
        Check.same("STATE", Check.state(hall, 0), 6);
        Check.refused("submit again", Check.STATE, () -> hall.submit(0));
        Check.same("STATE then", Check.state(hall, 0), 6);
    }

    private static void placesInTheirOrder() {
        WorkHall hall = new WorkHall(1, 2, 2, 0);
        int[] due = {2, 1, 1, 2};
        for (int i = 0; i < due.length; i++) {
            Check.same("submit " + i, hall.submit(Check.value(hall, 3)), due[i]);
        }
        Check.same("place of the job with the new worker", hall.about(3, 3), 1);
        Check.refused("submit of a QUEUED job", Check.STATE, () -> hall.submit(1));
        Check.same("worker(0)", hall.worker(0), 3);
        Check.same("worker(1)", hall.worker(1), 3);
    }

    private static void fewerThanCoreComesBeforeIdle() {
        WorkHall hall = new WorkHall(2, 2, 0, 0);
        hall.submit(Check.value(hall, 1));
        hall.step(1);
        hall.submit(Check.value(hall, 4));
        Check.same("workers, one of them IDLE", hall.count(1), 2);
        Check.same("worker(0) stays IDLE", hall.worker(0), 0);
        Check.same("worker(1) is BUSY", hall.worker(1), 4);
    }

    private static void theFirstIdleWorkerIsTaken() {
        WorkHall hall = new WorkHall(3, 3, 4, 0);
        hall.submit(Check.value(hall, 5));
        hall.submit(Check.value(hall, 1));
        hall.submit(Check.value(hall, 1));
        hall.step(1);
        Check.same("submit with two IDLE", hall.submit(Check.value(hall, 3)), 2);
        Check.same("the first IDLE one has it", hall.about(3, 3), 1);
        Check.same("the second stays IDLE", hall.worker(2), 0);
        Check.same("nothing was QUEUED", hall.count(3), 0);
    }

    private static void aPoolWithoutCoreQueuesFirst() {
        WorkHall hall = new WorkHall(0, 1, 1, 0);
        Check.same("the first job", hall.submit(Check.value(hall, 1)), 1);
        Check.same("no worker yet", hall.count(1), 0);
        Check.same("nothing happens to it", hall.step(10), 0);
        Check.same("the second job", hall.submit(Check.value(hall, 1)), 2);
        Check.same("both end", hall.step(2), 2);
    }

    private static void refusing() {
        WorkHall hall = Check.full(0);
        int job = Check.value(hall, 1);
        Check.refused("submit to a full pool", Check.UNSUPPORTED, () -> hall.submit(job));
        Check.same("it stays REFUSED", Check.state(hall, job), 6);
        Check.refused("submit of a REFUSED job", Check.STATE, () -> hall.submit(job));
    }

    private static void droppingTheJob() {
        WorkHall hall = new WorkHall(1, 1, 1, 1);
        hall.submit(Check.value(hall, 5));
        Check.same("submit to the room", hall.submit(Check.value(hall, 5)), 1);
        Check.same("submit to a full pool", hall.submit(Check.value(hall, 5)), 5);
        Check.same("the QUEUED one stays", Check.state(hall, 1), 1);
        Check.refused("submit of a CANCELLED job", Check.STATE, () -> hall.submit(2));
    }

    private static void droppingTheFirst() {
        WorkHall hall = new WorkHall(1, 1, 2, 2);
        for (int i = 0; i < 4; i++) {
            Check.same("submit " + i, hall.submit(Check.value(hall, 5)), i == 0 ? 2 : 1);
        }
        Check.same("the first of the QUEUE", Check.state(hall, 1), 5);
        Check.same("the second is first now", hall.about(2, 3), 0);
        Check.same("the new one is last", hall.about(3, 3), 1);
        WorkHall noRoom = Check.full(2);
        Check.same("submit without room", noRoom.submit(Check.value(noRoom, 1)), 5);
        Check.same("the RUNNING one stays", Check.state(noRoom, 0), 2);
        Check.same("the QUEUE stays empty", noRoom.count(3), 0);
        Check.same("submit without room again", noRoom.submit(Check.value(noRoom, 1)), 5);
    }

    private static void performingAtOnce() {
        performAtOnce("VALUE", 0, -9, 3, 3, -9);
        performAtOnce("DIVIDE", 1, -7, 2, 3, -3);
        performAtOnce("DIVIDE that wraps", 1, Integer.MIN_VALUE, -1, 3, Integer.MIN_VALUE);
        performAtOnce("DIVIDE by 0", 1, 7, 0, 4, 1);
        int[] row = {2, 3, 5, 7, 99};
        for (int i = 0; i < row.length; i++) {
            performAtOnce("PICK " + i, 2, i, 99, 3, row[i]);
        }
        performAtOnce("PICK 5", 2, 5, 99, 4, 2);
        performAtOnce("PICK -1", 2, -1, 99, 4, 2);
        performAtOnce("SUM of RUNNING", 3, 0, 0, 4, 3);
        performAtOnce("SUM of itself", 3, 1, 1, 4, 3);
        performAtOnce("SUM beyond", 3, 24, 0, 4, 3);
        performAtOnce("SUM below", 3, 0, -1, 4, 3);
        performAtOnce("FORK of RUNNING", 4, 0, 0, 4, 4);
        performAtOnce("FORK of itself", 4, 1, 0, 4, 4);
        performAtOnce("FORK of none", 4, 2, 0, 4, 4);
        performAtOnce("FORK below", 4, Integer.MIN_VALUE, 0, 4, 4);
        performAtOnce("FORK beyond", 4, Integer.MAX_VALUE, 0, 4, 4);
        performAtOnce("CRASH", 5, 0, 0, 4, 5);
        sums();
    }

    private static void performAtOnce(String name, int kind, int a, int b, int state, int outcome) {
        WorkHall hall = Check.full(3);
        int job = hall.job(kind, a, b, 5);
        Check.same(name, hall.submit(job), state);
        Check.same(name + ", its outcome", state == 3 ? hall.get(job) : hall.about(job, 4), outcome);
        Check.same(name + ", count(6)", hall.count(6), 1);
        Check.same(name + ", the worker", hall.worker(0), 5);
    }

    private static void sums() {
        WorkHall hall = Check.full(3);
        int greatest = hall.job(0, Integer.MAX_VALUE, 0, 1);
        int two = hall.job(0, 2, 0, 1);
        hall.submit(greatest);
        hall.submit(two);
        int sum = hall.job(3, greatest, two, 1);
        hall.submit(sum);
        Check.same("SUM that wraps", hall.get(sum), Integer.MIN_VALUE + 1);
        int twice = hall.job(3, two, two, 1);
        hall.submit(twice);
        Check.same("SUM of a job with itself", hall.get(twice), 4);
        int half = hall.job(3, two, 0, 1);
        Check.same("SUM with one not DONE", hall.submit(half), 4);
        int other = hall.job(3, 0, two, 1);
        Check.same("SUM with the other not DONE", hall.submit(other), 4);
    }

    private static void crashingAtOnceCostsNoWorker() {
        WorkHall hall = Check.full(3);
        Check.same("CRASH at once", hall.submit(Check.crash(hall, 1)), 4);
        Check.same("workers", hall.count(1), 1);
        int crash = Check.crash(hall, 1);
        int fork = Check.fork(hall, crash, 1);
        Check.same("FORK of a CRASH", hall.submit(fork), 3);
        Check.same("its result is FAILED", hall.get(fork), 4);
    }

    private static void forkingAtOnce() {
        WorkHall hall = Check.full(3);
        int fork = Check.fork(hall, 2, 1);
        int back = Check.fork(hall, fork, 1);
        hall.then(back, fork);
        Check.same("two that FORK each other", hall.submit(fork), 3);
        Check.same("the outer has the STATE of the inner", hall.get(fork), 4);
        Check.same("the inner throws 4", hall.about(back, 4), 4);
        Check.same("each has ENDED once", hall.count(6), 2);
    }

    private static void aLongChainAtOnce() {
        WorkHall hall = Check.full(3);
        for (int i = 1; i < 23; i++) {
            Check.fork(hall, i + 1, 1);
        }
        Check.value(hall, 1);
        Check.same("a chain of 23 jobs", hall.submit(1), 3);
        Check.same("all have ENDED", hall.count(6), 23);
        Check.same("the last", hall.get(23), 7);
        Check.same("the last but one", hall.get(22), 3);
    }

    private static void forksOfTheOtherPolicies() {
        int[] dueState = {6, 5, 5};
        for (int policy = 0; policy <= 2; policy++) {
            WorkHall hall = new WorkHall(1, 1, 0, policy);
            int target = Check.value(hall, 1);
            int fork = Check.fork(hall, target, 1);
            hall.submit(fork);
            hall.step(1);
            Check.same("the forked JOB, policy " + policy, Check.state(hall, target), dueState[policy]);
            Check.same("the FORK", Check.state(hall, fork), policy == 0 ? 4 : 3);
            Check.same("what it has", Check.answer(() -> hall.get(fork)),
                    policy == 0 ? "UnsupportedOperationException" : dueState[policy]);
        }
    }

    private static void numbersBehindTheLastJob() {
        WorkHall hall = Check.full(3);
        for (int i = 1; i < 22; i++) {
            Check.value(hall, 1);
        }
        int fork = Check.fork(hall, 24, 1);
        int sum = hall.job(3, 24, 24, 1);
        Check.same("FORK of 24", hall.submit(fork), 4);
        Check.same("SUM of 24", hall.submit(sum), 4);
    }

    private static void closedPoolsRefuse() {
        for (int policy = 0; policy <= 3; policy++) {
            WorkHall hall = Check.full(policy);
            int early = Check.value(hall, 1);
            int late = Check.value(hall, 1);
            hall.shut(false);
            Check.refused("submit to CLOSING, policy " + policy, Check.UNSUPPORTED, () -> hall.submit(early));
            Check.same("its STATE", Check.state(hall, early), 6);
            hall.step(5);
            Check.refused("submit to ENDED, policy " + policy, Check.UNSUPPORTED, () -> hall.submit(late));
            Check.same("its STATE", Check.state(hall, late), 6);
        }
    }
}
