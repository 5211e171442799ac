/** Promise 9: tick fires ENTRIES, moves TIME and sends idle workers away. */
public final class Promise09TickTest {
    public static void main(String[] args) {
        wrongNumbers();
        byHasEnds();
        onlyEntriesUpToTheGoal();
        justGIsNotAboveIt();
        theLeastTimeThenTheFirstPut();
        entriesPutAnewStandBehind();
        timeIsThatOfTheEntry();
        atMostTwentyTimes();
        nineteenTwentyAndTwentyOne();
        twentyOfSeveralEntries();
        timeDoesNotGoBack();
        jobsAreMadeNewAgain();
        otherJobsAreLeftAlone();
        firingAtOnce();
        aClosingPool();
        idleWorkersGo();
        idleWorkersGoInOrder();
        idleForJustTwenty();
        noFewerThanCore();
        busyWorkersStay();
        whoIsTakenByAFiringIsNotIdle();
        Check.end();
    }

    private static void wrongNumbers() {
        WorkHall hall = new WorkHall(1, 1, 1, 0);
        hall.clock(Check.value(hall, 1), 0.0, 0.0);
        double[] wrong = {-0.5, -Double.MIN_VALUE, 100.00000001, Double.NaN,
            Double.POSITIVE_INFINITY, Double.NEGATIVE_INFINITY};
        for (double by : wrong) {
            Check.refused("tick(" + by + ")", Check.ARGUMENT, () -> hall.tick(by));
        }
        Check.same("nothing fired", hall.count(4), 1);
        Check.same("tick(0.0)", hall.tick(0.0), 1);
        Check.same("tick(100.0)", hall.tick(100.0), 0);
        hall.clock(0, 0.0, 0.0);
        Check.same("TIME", hall.due(), 100.0);
    }

    /** "by 0.0 .. 100.0; let G be TIME plus that .. TIME is G." */
    private static void byHasEnds() {
        WorkHall hall = Check.full(1);
        double time = 0.0;
        for (double by : new double[] {0.0, -0.0, Double.MIN_VALUE, 100.0, 100.0, Math.nextDown(100.0)}) {
            Check.same("tick(" + by + ")", hall.tick(by), 0);
            time += by;
            hall.clock(0, 0.0, 0.0);
            Check.same("TIME", hall.due(), time);
            Check.same("an ENTRY of now", hall.tick(0.0), 1);
        }
        Check.refused("below", Check.ARGUMENT, () -> hall.tick(-Double.MIN_VALUE));
        Check.refused("above", Check.ARGUMENT, () -> hall.tick(Math.nextUp(100.0)));
        hall.clock(0, 0.0, 0.0);
        Check.same("TIME stays", hall.due(), time);
    }

    /** "As long as the first ENTRY's time is not above G" */
    private static void justGIsNotAboveIt() {
        Check.same("just G", fired(8.0, 8.0), 1);
        Check.same("the next number above G", fired(Math.nextUp(8.0), 8.0), 0);
        Check.same("the next number below G", fired(Math.nextDown(8.0), 8.0), 1);
        Check.same("0.0 and 0.0", fired(0.0, 0.0), 1);
        Check.same("100.0 and 100.0", fired(100.0, 100.0), 1);
        Check.same("the least delay and 0.0", fired(Double.MIN_VALUE, 0.0), 0);
    }

    private static int fired(double delay, double by) {
        WorkHall hall = Check.full(1);
        hall.clock(0, delay, 0.0);
        int fired = hall.tick(by);
        Check.same("ENTRIES left", hall.count(4), 1 - fired);
        return fired;
    }

    /** "but at most 20 times": one ENTRY that is due 19, 20 and 21 times. */
    private static void nineteenTwentyAndTwentyOne() {
        for (int times = 19; times <= 21; times++) {
            WorkHall hall = Check.full(1);
            hall.clock(0, 1.0, 1.0);
            Check.same(times + " are due", hall.tick(times), Math.min(times, 20));
            Check.same(times + " are due, the next", hall.due(), Math.min(times, 20) + 1.0);
            Check.same(times + " are due, what is left", hall.tick(0.0), times == 21 ? 1 : 0);
        }
    }

    private static void twentyOfSeveralEntries() {
        WorkHall hall = Check.full(1);
        for (int i = 0; i < 10; i++) {
            hall.clock(0, 1.0 + i, 10.0);
        }
        Check.same("25 are due", hall.tick(25.0), 20);
        Check.same("the 21st is the first", hall.due(), 21.0);
        Check.same("the other five", hall.tick(0.0), 5);
        Check.same("then", hall.due(), 26.0);
        Check.same("all are there", hall.count(4), 10);
    }

    /** "TIME is that time if it is above TIME": one that was left behind is not. */
    private static void timeDoesNotGoBack() {
        WorkHall hall = new WorkHall(1, 1, 1, 0);
        int again = Check.value(hall, 1);
        hall.submit(again);
        hall.clock(again, 0.0, 1.0);
        Check.same("twenty times, with its JOB RUNNING", hall.tick(50.0), 20);
        Check.same("the ENTRY is behind TIME", hall.due(), 20.0);
        hall.step(1);
        hall.submit(Check.value(hall, 1));
        Check.same("it FIRES at 50.0", hall.tick(0.0), 20);
        Check.same("its JOB is QUEUED", Check.state(hall, again), 1);
        hall.tick(2.0);
        hall.step(1);
        Check.same("it is taken at 52.0", hall.delay(), 2.0);
    }

    private static void onlyEntriesUpToTheGoal() {
        WorkHall hall = new WorkHall(1, 1, 1, 0);
        hall.clock(Check.value(hall, 1), 5.0, 0.0);
        Check.same("before", hall.tick(4.5), 0);
        Check.same("the JOB", Check.state(hall, 0), 0);
        Check.same("just then", hall.tick(0.5), 1);
        Check.same("the JOB", Check.state(hall, 0), 2);
        Check.same("the ENTRY is gone", hall.count(4), 0);
    }

    private static void theLeastTimeThenTheFirstPut() {
        WorkHall hall = new WorkHall(1, 1, 4, 0);
        for (int i = 0; i < 4; i++) {
            Check.value(hall, 5);
        }
        hall.clock(3, 2.0, 0.0);
        hall.clock(1, 1.0, 0.0);
        hall.clock(0, 2.0, 0.0);
        hall.clock(2, 1.0, 0.0);
        Check.same("all fire", hall.tick(2.0), 4);
        Check.same("the first is RUNNING", Check.state(hall, 1), 2);
        Check.same("the second", hall.about(2, 3), 0);
        Check.same("the third", hall.about(3, 3), 1);
        Check.same("the fourth", hall.about(0, 3), 2);
    }

    private static void entriesPutAnewStandBehind() {
        WorkHall hall = new WorkHall(1, 1, 1, 3);
        int value = Check.value(hall, 5);
        int divide = hall.job(1, 1, 0, 5);
        int other = hall.job(0, 2, 0, 5);
        hall.submit(value);
        hall.submit(hall.job(0, 0, 0, 5));
        hall.clock(divide, 1.0, 1.0);
        hall.clock(other, 2.0, 0.0);
        int sum = hall.job(3, other, other, 1);
        hall.clock(sum, 2.0, 0.0);
        Check.same("two at once and two later", hall.tick(2.0), 4);
        Check.same("the SUM came after", hall.get(sum), 4);
        Check.same("the next one", hall.due(), 3.0);
        WorkHall order = new WorkHall(1, 1, 4, 0);
        order.submit(Check.value(order, 5));
        int first = Check.value(order, 5);
        int second = Check.value(order, 5);
        order.clock(first, 1.0, 1.0);
        order.clock(second, 2.0, 0.0);
        order.tick(1.0);
        order.cancel(first, false);
        int again = Check.value(order, 5);
        order.clock(again, 1.0, 0.0);
        Check.same("three fire", order.tick(1.0), 3);
        Check.same("put first", order.about(second, 3), 0);
        Check.same("put last", order.about(again, 3), 1);
        Check.same("a CANCELLED one goes on firing", order.due(), 3.0);
    }

    private static void timeIsThatOfTheEntry() {
        WorkHall hall = new WorkHall(1, 1, 2, 0);
        hall.submit(Check.value(hall, 1));
        hall.clock(Check.value(hall, 1), 3.0, 0.0);
        hall.tick(10.0);
        hall.step(1);
        Check.same("it came at 3.0 and was taken at 10.0", hall.delay(), 7.0);
    }

    private static void atMostTwentyTimes() {
        WorkHall hall = new WorkHall(1, 2, 4, 0);
        int job = Check.value(hall, 5);
        hall.submit(Check.value(hall, 1));
        hall.clock(job, 0.0, 0.5);
        Check.same("many are due", hall.tick(50.0), 20);
        Check.same("what is due stays behind", hall.due(), 10.0);
        int late = Check.value(hall, 5);
        hall.clock(late, 0.0, 0.0);
        Check.same("TIME is the goal even so", hall.tick(0.0), 20);
        Check.same("TIME did not go back", hall.due(), 20.0);
        hall.step(1);
        Check.same("the JOB came at 0.0", hall.delay(), 50.0);
        WorkHall exact = new WorkHall(1, 1, 0, 1);
        exact.clock(Check.value(exact, 5), 1.0, 1.0);
        Check.same("just twenty", exact.tick(20.0), 20);
        Check.same("none of them left", exact.tick(0.0), 0);
    }

    private static void jobsAreMadeNewAgain() {
        WorkHall hall = new WorkHall(1, 1, 1, 0);
        int done = Check.value(hall, 2);
        int failed = hall.job(1, 1, 0, 1);
        int next = Check.value(hall, 1);
        hall.then(done, next);
        hall.submit(done);
        hall.submit(failed);
        Check.same("all", hall.step(4), 2);
        Check.same("the NEXT found no room", Check.state(hall, next), 6);
        hall.clock(done, 0.0, 0.0);
        hall.clock(failed, 0.0, 0.0);
        Check.same("both", hall.tick(0.0), 2);
        Check.same("it is RUNNING with all its units", hall.worker(0), 2);
        Check.same("QUEUED again", Check.state(hall, failed), 1);
        Check.same("it threw nothing yet", hall.about(failed, 4), 0);
        Check.same("its NEXT stays", hall.about(done, 2), next);
        Check.same("again", hall.step(4), 2);
        Check.same("again its result", hall.get(done), 7);
    }

    private static void otherJobsAreLeftAlone() {
        WorkHall hall = new WorkHall(1, 1, 1, 0);
        int running = Check.value(hall, 5);
        int queued = Check.value(hall, 5);
        int refused = Check.value(hall, 5);
        int cancelled = Check.value(hall, 5);
        hall.submit(running);
        hall.submit(queued);
        Check.answer(() -> hall.submit(refused));
        hall.cancel(cancelled, false);
        hall.step(1);
        for (int job = 0; job < 4; job++) {
            hall.clock(job, 1.0, 0.0);
        }
        Check.same("all fire", hall.tick(1.0), 4);
        int[] due = {2, 1, 6, 5};
        for (int job = 0; job < 4; job++) {
            Check.same("STATE of " + job, Check.state(hall, job), due[job]);
        }
        Check.same("its units", hall.worker(0), 4);
    }

    private static void firingAtOnce() {
        WorkHall hall = Check.full(3);
        int value = Check.value(hall, 1);
        hall.clock(value, 1.0, 1.0);
        Check.same("three times", hall.tick(3.0), 3);
        Check.same("each time it ENDED", hall.count(6), 3);
        WorkHall refusing = Check.full(0);
        int job = Check.value(refusing, 1);
        refusing.clock(job, 1.0, 1.0);
        Check.same("fires although it is REFUSED", refusing.tick(3.0), 3);
        Check.same("its STATE", Check.state(refusing, job), 6);
        Check.same("the ENTRY stays", refusing.due(), 4.0);
    }

    private static void aClosingPool() {
        WorkHall hall = Check.full(3);
        int done = Check.value(hall, 1);
        hall.submit(done);
        hall.clock(done, 1.0, 1.0);
        hall.shut(false);
        Check.same("the ENTRY is still there", hall.count(4), 1);
        Check.same("it fires", hall.tick(5.0), 1);
        Check.same("the DONE job was made NEW and REFUSED", Check.state(hall, done), 6);
        Check.same("the ENTRY is gone", hall.count(4), 0);
    }

    private static void idleWorkersGo() {
        WorkHall hall = new WorkHall(1, 3, 0, 0);
        for (int i = 0; i < 3; i++) {
            hall.submit(Check.value(hall, 1 + i));
        }
        hall.step(1);
        hall.tick(10.0);
        hall.step(1);
        hall.tick(9.5);
        Check.same("19.5 is not enough", hall.count(1), 3);
        hall.tick(0.5);
        Check.same("20.0 is", hall.count(1), 2);
        Check.same("the BUSY one is second now", hall.about(2, 3), 1);
        hall.tick(10.0);
        Check.same("the other after its 20.0", hall.count(1), 1);
        hall.step(1);
        hall.tick(100.0);
        Check.same("CORE stay", hall.count(1), 1);
        Check.same("the most that were there", hall.count(7), 3);
    }

    private static void idleWorkersGoInOrder() {
        WorkHall hall = new WorkHall(1, 3, 0, 0);
        int[] costs = {3, 1, 2};
        for (int cost : costs) {
            hall.submit(Check.value(hall, cost));
        }
        hall.step(2);
        hall.tick(15.0);
        Check.same("IDLE workers go on being asked first", hall.submit(Check.value(hall, 5)), 2);
        Check.same("the first IDLE", hall.about(3, 3), 1);
        hall.tick(5.0);
        Check.same("the one that got a job stays", hall.count(1), 2);
        Check.same("its place", hall.about(3, 3), 1);
        hall.cancel(3, true);
        hall.cancel(0, true);
        hall.tick(20.0);
        Check.same("the first of two goes", hall.count(1), 1);
    }

    /** "WORKERS that were IDLE for 20.0 or more": of two, CORE 1, one would go. */
    private static void idleForJustTwenty() {
        Check.same("20.0", workersAfter(1, 20.0), 1);
        Check.same("the next number below 20.0", workersAfter(1, Math.nextDown(20.0)), 2);
        Check.same("the next number above 20.0", workersAfter(1, Math.nextUp(20.0)), 1);
        Check.same("0.0", workersAfter(1, 0.0), 2);
        Check.same("100.0", workersAfter(1, 100.0), 1);
    }

    /** "as long as there are more than CORE" */
    private static void noFewerThanCore() {
        Check.same("CORE 0", workersAfter(0, 20.0), 0);
        Check.same("CORE 1", workersAfter(1, 20.0), 1);
        Check.same("CORE 2", workersAfter(2, 20.0), 2);
        Check.same("CORE 3", workersAfter(3, 100.0), 2);
        WorkHall hall = new WorkHall(3, 5, 0, 0);
        for (int i = 0; i < 5; i++) {
            hall.submit(Check.value(hall, 1));
        }
        hall.step(1);
        hall.tick(20.0);
        Check.same("CORE 3 of five", hall.count(1), 3);
        hall.tick(100.0);
        Check.same("CORE 3 of three", hall.count(1), 3);
    }

    /** How many of two WORKERS that are IDLE are there so much later. */
    private static int workersAfter(int core, double by) {
        WorkHall hall = new WorkHall(core, 5, 0, 0);
        hall.submit(Check.value(hall, 1));
        hall.submit(Check.value(hall, 1));
        hall.step(1);
        hall.tick(by);
        return hall.count(1);
    }

    /** "in order": BUSY ones count for CORE, and are passed over. */
    private static void busyWorkersStay() {
        WorkHall hall = new WorkHall(2, 5, 0, 0);
        for (int cost : new int[] {5, 1, 4, 1, 1}) {
            hall.submit(Check.value(hall, cost));
        }
        hall.step(1);
        hall.tick(20.0);
        Check.same("WORKERS", hall.count(1), 2);
        Check.same("the first BUSY one", hall.worker(0), 4);
        Check.same("the second BUSY one", hall.worker(1), 3);
        WorkHall some = new WorkHall(3, 5, 0, 0);
        for (int cost : new int[] {5, 1, 4, 1, 1}) {
            some.submit(Check.value(some, cost));
        }
        some.step(1);
        some.tick(20.0);
        Check.same("the first two IDLE ones went", some.count(1), 3);
        Check.same("BUSY", some.worker(0), 4);
        Check.same("BUSY", some.worker(1), 3);
        Check.same("IDLE", some.worker(2), 0);
    }

    /** "Then": it is asked after all have FIRED. */
    private static void whoIsTakenByAFiringIsNotIdle() {
        WorkHall hall = new WorkHall(0, 1, 1, 0);
        hall.submit(Check.value(hall, 1));
        hall.submit(Check.value(hall, 1));
        hall.step(2);
        Check.same("the WORKER is IDLE", hall.worker(0), 0);
        hall.clock(0, 50.0, 0.0);
        Check.same("one FIRES", hall.tick(50.0), 1);
        Check.same("the WORKER that was IDLE for 50.0 has it", Check.state(hall, 0), 2);
        Check.same("it is there", hall.count(1), 1);
    }
}
