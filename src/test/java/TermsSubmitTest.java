/** Terms: TO SUBMIT, case by case in their order, and the four POLICIES. */
public final class TermsSubmitTest {
    public static void main(String[] args) {
        notOpenComesBeforeAllElse();
        fewerWorkersThanCoreComesBeforeAnIdleOne();
        asManyWorkersAsCoreIsNotFewer();
        anIdleWorkerComesBeforeTheQueue();
        theFirstIdleWorkerIsBusyWithIt();
        theQueueComesBeforeANewWorker();
        theQueueHasFewerThanRoom();
        roomZeroQueuesNothing();
        fewerWorkersThanMostComesBeforeThePolicy();
        policyZeroRefuses();
        policyOneCancelsTheJob();
        policyTwoCancelsTheFirstOfTheQueue();
        policyTwoWithAnEmptyQueueCancelsTheJob();
        policyThreePerformsItAtOnce();
        policyThreeEndsIt();
        theLongestChainsAtOnce();
        busyWithItIsRunningWithItsCost();
        Check.end();
    }

    /** "the POOL is not OPEN: POLICY 0 applies", though WORKERS, an IDLE one and the QUEUE have room. */
    private static void notOpenComesBeforeAllElse() {
        for (int policy = 0; policy <= 3; policy++) {
            WorkHall hall = new WorkHall(3, 5, 4, policy);
            hall.submit(Check.value(hall, 1));
            hall.submit(Check.value(hall, 3));
            hall.step(1);
            hall.shut(false);
            String name = "POLICY " + policy + ", ";
            Check.same(name + "one IDLE, one BUSY, fewer than CORE", hall.count(1) - hall.count(2), 1);
            int closing = Check.value(hall, 1);
            Check.refused(name + "CLOSING", Check.UNSUPPORTED, () -> hall.submit(closing));
            Check.same(name + "the JOB", Check.state(hall, closing), 6);
            Check.same(name + "WORKERS", hall.count(1), 2);
            Check.same(name + "BUSY", hall.count(2), 1);
            Check.same(name + "QUEUE", hall.count(3), 0);
            hall.step(2);
            int ended = Check.value(hall, 1);
            Check.same(name + "ENDED", hall.count(5), 2);
            Check.refused(name + "ENDED", Check.UNSUPPORTED, () -> hall.submit(ended));
            Check.same(name + "the JOB", Check.state(hall, ended), 6);
            Check.same(name + "no WORKERS", hall.count(1), 0);
        }
    }

    /** "Fewer WORKERS than CORE: a new WORKER is BUSY with it. Else one is IDLE" */
    private static void fewerWorkersThanCoreComesBeforeAnIdleOne() {
        WorkHall hall = new WorkHall(3, 3, 4, 0);
        for (int workers = 1; workers <= 3; workers++) {
            Check.same("submit", hall.submit(Check.value(hall, 1)), 2);
            Check.same("WORKERS", hall.count(1), workers);
            Check.same("the new one is last", hall.about(workers - 1, 3), workers - 1);
            hall.step(1);
            Check.same("all are IDLE", hall.count(2), 0);
        }
    }

    private static void asManyWorkersAsCoreIsNotFewer() {
        WorkHall hall = new WorkHall(2, 5, 4, 0);
        hall.submit(Check.value(hall, 5));
        Check.same("one fewer than CORE", hall.submit(Check.value(hall, 5)), 2);
        Check.same("just CORE", hall.submit(Check.value(hall, 5)), 1);
        Check.same("WORKERS", hall.count(1), 2);
        WorkHall none = new WorkHall(0, 5, 1, 0);
        Check.same("CORE 0", none.submit(Check.value(none, 5)), 1);
        Check.same("no WORKER", none.count(1), 0);
    }

    /** "Else one is IDLE: the first such is. Else the QUEUE" */
    private static void anIdleWorkerComesBeforeTheQueue() {
        WorkHall hall = new WorkHall(1, 1, 4, 0);
        hall.submit(Check.value(hall, 1));
        hall.step(1);
        Check.same("an IDLE one and an empty QUEUE", hall.submit(Check.value(hall, 5)), 2);
        Check.same("none IDLE", hall.submit(Check.value(hall, 5)), 1);
    }

    private static void theFirstIdleWorkerIsBusyWithIt() {
        WorkHall hall = new WorkHall(3, 3, 0, 0);
        for (int cost : new int[] {2, 1, 1}) {
            hall.submit(Check.value(hall, cost));
        }
        hall.step(1);
        hall.submit(Check.value(hall, 5));
        Check.same("the first IDLE one is the second", hall.about(3, 3), 1);
        hall.step(1);
        hall.submit(Check.value(hall, 5));
        Check.same("the first is IDLE now", hall.about(4, 3), 0);
        hall.submit(Check.value(hall, 5));
        Check.same("the last", hall.about(5, 3), 2);
    }

    /** "Else the QUEUE has fewer than ROOM JOBS: it is QUEUED .. Else there are fewer WORKERS than MOST" */
    private static void theQueueComesBeforeANewWorker() {
        WorkHall hall = new WorkHall(1, 5, 4, 0);
        hall.submit(Check.value(hall, 5));
        for (int place = 0; place < 4; place++) {
            int job = Check.value(hall, 5);
            Check.same("submit to place " + place, hall.submit(job), 1);
            Check.same("at the end", hall.about(job, 3), place);
            Check.same("no new WORKER", hall.count(1), 1);
        }
        Check.same("a full QUEUE", hall.submit(Check.value(hall, 5)), 2);
        Check.same("a new WORKER", hall.about(5, 3), 1);
        Check.same("the QUEUE stays", hall.about(1, 3), 0);
    }

    private static void theQueueHasFewerThanRoom() {
        for (int room = 1; room <= 4; room++) {
            WorkHall hall = new WorkHall(1, 1, room, 1);
            hall.submit(Check.value(hall, 5));
            for (int i = 0; i < room; i++) {
                Check.same("ROOM " + room + ", " + i + " in it", hall.submit(Check.value(hall, 5)), 1);
            }
            Check.same("ROOM " + room + ", full", hall.submit(Check.value(hall, 5)), 5);
            Check.same("in the QUEUE", hall.count(3), room);
        }
    }

    private static void roomZeroQueuesNothing() {
        WorkHall hall = new WorkHall(0, 1, 0, 1);
        Check.same("a new WORKER", hall.submit(Check.value(hall, 5)), 2);
        Check.same("no other", hall.submit(Check.value(hall, 5)), 5);
        Check.same("the QUEUE", hall.count(3), 0);
    }

    /** "Else there are fewer WORKERS than MOST: a new one is BUSY with it. Else by POLICY" */
    private static void fewerWorkersThanMostComesBeforeThePolicy() {
        for (int policy = 0; policy <= 3; policy++) {
            for (int most = 1; most <= 5; most++) {
                WorkHall hall = new WorkHall(0, most, 0, policy);
                for (int i = 0; i < most; i++) {
                    Check.same("MOST " + most + ", " + i + " there", hall.submit(Check.value(hall, 5)), 2);
                }
                int late = Check.value(hall, 5);
                Check.answer(() -> hall.submit(late));
                Check.same("POLICY " + policy, Check.state(hall, late), new int[] {6, 5, 5, 3}[policy]);
                Check.same("WORKERS", hall.count(1), most);
            }
        }
    }

    /** "0: it is REFUSED" */
    private static void policyZeroRefuses() {
        WorkHall hall = new WorkHall(1, 1, 1, 0);
        hall.submit(Check.value(hall, 5));
        hall.submit(Check.value(hall, 5));
        int late = Check.value(hall, 5);
        Check.refused("submit", Check.UNSUPPORTED, () -> hall.submit(late));
        Check.same("the JOB", Check.state(hall, late), 6);
        Check.same("the QUEUE stays", hall.about(1, 3), 0);
    }

    /** "1: it is CANCELLED" */
    private static void policyOneCancelsTheJob() {
        WorkHall hall = new WorkHall(1, 1, 1, 1);
        hall.submit(Check.value(hall, 5));
        hall.submit(Check.value(hall, 5));
        Check.same("submit", hall.submit(Check.value(hall, 5)), 5);
        Check.same("the QUEUE stays", hall.about(1, 3), 0);
        Check.same("nothing ENDED", hall.count(6), 0);
    }

    /** "2: the first JOB of the QUEUE is CANCELLED, and this one is QUEUED at the end" */
    private static void policyTwoCancelsTheFirstOfTheQueue() {
        for (int room = 1; room <= 4; room++) {
            WorkHall hall = new WorkHall(1, 1, room, 2);
            for (int i = 0; i <= room; i++) {
                hall.submit(Check.value(hall, 5));
            }
            int late = Check.value(hall, 5);
            String name = "ROOM " + room + ", ";
            Check.same(name + "submit", hall.submit(late), 1);
            Check.same(name + "the first", Check.state(hall, 1), 5);
            Check.same(name + "its place", hall.about(1, 3), -1);
            for (int job = 2; job <= late; job++) {
                Check.same(name + "place of " + job, hall.about(job, 3), job - 2);
            }
            Check.same(name + "in the QUEUE", hall.count(3), room);
            Check.same(name + "the RUNNING one", Check.state(hall, 0), 2);
            Check.refused(name + "nothing was taken", Check.ARITHMETIC, () -> hall.delay());
        }
        theOneBehindKeepsItsTime();
    }

    private static void theOneBehindKeepsItsTime() {
        WorkHall hall = new WorkHall(1, 1, 2, 2);
        hall.submit(Check.value(hall, 1));
        hall.submit(Check.value(hall, 5));
        hall.tick(1.0);
        hall.submit(Check.value(hall, 1));
        hall.tick(1.0);
        hall.submit(Check.value(hall, 5));
        hall.tick(4.0);
        hall.step(1);
        Check.same("it came at 1.0", hall.delay(), 5.0);
        hall.step(1);
        Check.same("the last came at 2.0", hall.delay(), 4.5);
    }

    /** "(the QUEUE is empty: it is CANCELLED)" */
    private static void policyTwoWithAnEmptyQueueCancelsTheJob() {
        WorkHall hall = new WorkHall(0, 1, 0, 2);
        hall.submit(Check.value(hall, 5));
        Check.same("submit", hall.submit(Check.value(hall, 5)), 5);
        Check.same("the QUEUE", hall.count(3), 0);
        Check.same("the RUNNING one", Check.state(hall, 0), 2);
    }

    /** "3: it is PERFORMED at once": its COST and the QUEUE do not matter. */
    private static void policyThreePerformsItAtOnce() {
        WorkHall hall = new WorkHall(1, 1, 1, 3);
        hall.submit(Check.value(hall, 5));
        hall.submit(Check.value(hall, 5));
        int late = Check.value(hall, 5);
        Check.same("submit", hall.submit(late), 3);
        Check.same("its RESULT", hall.get(late), 7);
        Check.same("the WORKER", hall.worker(0), 5);
        Check.same("the QUEUE stays", hall.about(1, 3), 0);
        int failing = Check.crash(hall, 1);
        Check.same("one that throws 5", hall.submit(failing), 4);
        Check.same("the WORKER stays", hall.worker(0), 5);
        Check.same("what it threw", hall.about(failing, 4), 5);
    }

    /** "and ENDS": it is counted, and its NEXT is SUBMITTED if it is DONE. */
    private static void policyThreeEndsIt() {
        WorkHall hall = Check.full(3);
        int first = Check.value(hall, 1);
        int failing = hall.job(2, 5, 0, 1);
        int last = Check.value(hall, 1);
        hall.then(first, failing);
        hall.then(failing, last);
        Check.same("submit", hall.submit(first), 3);
        Check.same("two have ENDED", hall.count(6), 2);
        Check.same("the NEXT of the DONE one", Check.state(hall, failing), 4);
        Check.same("the NEXT of the FAILED one", Check.state(hall, last), 0);
    }

    /** All 24 JOBS, each SUBMITTED while the one before ENDS or is PERFORMED: as NEXT, by FORK, and by turns. */
    private static void theLongestChainsAtOnce() {
        for (int forks = 0; forks <= 2; forks++) {
            WorkHall fromStep = chain(new WorkHall(1, 1, 0, 3), forks);
            Check.same("a WORKER begins with it", fromStep.submit(0), 2);
            Check.same("all END in one STEP", fromStep.step(1), 24);
            allAreDone(fromStep, 0);
            WorkHall fromSubmit = chain(Check.full(3), forks);
            Check.same("it is PERFORMED at once", fromSubmit.submit(1), 3);
            Check.same("all others END at once", fromSubmit.count(6), 23);
            allAreDone(fromSubmit, 1);
        }
    }

    /** Fills the hall with JOBS up to the last; each has the one behind it as NEXT, or is a FORK of it. */
    private static WorkHall chain(WorkHall hall, int forks) {
        int first = hall.count(0);
        for (int job = first; job < 24; job++) {
            boolean forking = job < 23 && (forks == 1 || forks == 2 && job % 2 == 0);
            hall.job(forking ? 4 : 0, forking ? job + 1 : 7, 0, 1);
        }
        for (int job = first; job < 23; job++) {
            if (hall.about(job, 1) == 0) {
                hall.then(job, job + 1);
            }
        }
        return hall;
    }

    private static void allAreDone(WorkHall hall, int first) {
        for (int job = first; job < 24; job++) {
            Check.same("STATE of JOB " + job, Check.state(hall, job), 3);
            Check.same("RESULT of JOB " + job, hall.get(job), hall.about(job, 1) == 4 ? 3 : 7);
        }
    }

    /** "BUSY with it: it is RUNNING, its COST is left." */
    private static void busyWithItIsRunningWithItsCost() {
        for (int cost = 1; cost <= 5; cost++) {
            WorkHall hall = new WorkHall(1, 1, 0, 0);
            Check.same("submit, COST " + cost, hall.submit(Check.value(hall, cost)), 2);
            Check.same("units left", hall.worker(0), cost);
            for (int step = 1; step < cost; step++) {
                Check.same("not yet", hall.step(1), 0);
                Check.same("still RUNNING", Check.state(hall, 0), 2);
            }
            Check.same("at 0 units it ENDS", hall.step(1), 1);
            Check.same("it is DONE", Check.state(hall, 0), 3);
        }
    }
}
