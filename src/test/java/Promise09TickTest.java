/** Promise 9: tick fires ENTRIES, moves TIME and sends idle workers away. */
public final class Promise09TickTest {
    public static void main(String[] args) {
        wrongNumbers();
        onlyEntriesUpToTheGoal();
        theLeastTimeThenTheFirstPut();
        entriesPutAnewStandBehind();
        timeIsThatOfTheEntry();
        atMostTwentyTimes();
        jobsAreMadeNewAgain();
        otherJobsAreLeftAlone();
        firingAtOnce();
        aClosingPool();
        idleWorkersGo();
        idleWorkersGoInOrder();
        Check.end();
    }

    private static void wrongNumbers() {
        WorkHall hall = new WorkHall(1, 1, 1, 0);
        hall.clock(Check.value(hall, 1), 0.0, 0.0);
        double[] wrong = {-0.5, -Double.MIN_VALUE, 100.00000001, Double.NaN,
            Double.POSITIVE_INFINITY, Double.NEGATIVE_INFINITY};
        for (double by : wrong) {
            Check.refused("tick(" + by + ")", Check.ARGUMENT, () -> hall.tick(by));
        }
        Check.same("nothing fired", hall.count(4), 1);
        Check.same("tick(0.0)", hall.tick(0.0), 1);
        Check.same("tick(100.0)", hall.tick(100.0), 0);
        hall.clock(0, 0.0, 0.0);
        Check.same("TIME", hall.due(), 100.0);
    }

    private static void onlyEntriesUpToTheGoal() {
        WorkHall hall = new WorkHall(1, 1, 1, 0);
        hall.clock(Check.value(hall, 1), 5.0, 0.0);
        Check.same("before", hall.tick(4.5), 0);
        Check.same("the JOB", Check.state(hall, 0), 0);
        Check.same("just then", hall.tick(0.5), 1);
        Check.same("the JOB", Check.state(hall, 0), 2);
        Check.same("the ENTRY is gone", hall.count(4), 0);
    }

    private static void theLeastTimeThenTheFirstPut() {
        WorkHall hall = new WorkHall(1, 1, 4, 0);
        for (int i = 0; i < 4; i++) {
            Check.value(hall, 5);
        }
        hall.clock(3, 2.0, 0.0);
        hall.clock(1, 1.0, 0.0);
        hall.clock(0, 2.0, 0.0);
        hall.clock(2, 1.0, 0.0);
        Check.same("all fire", hall.tick(2.0), 4);
        Check.same("the first is RUNNING", Check.state(hall, 1), 2);
        Check.same("the second", hall.about(2, 3), 0);
        Check.same("the third", hall.about(3, 3), 1);
        Check.same("the fourth", hall.about(0, 3), 2);
    }

    private static void entriesPutAnewStandBehind() {
        WorkHall hall = new WorkHall(1, 1, 1, 3);
        int value = Check.value(hall, 5);
        int divide = hall.job(1, 1, 0, 5);
        int other = hall.job(0, 2, 0, 5);
        hall.submit(value);
        hall.submit(hall.job(0, 0, 0, 5));
        hall.clock(divide, 1.0, 1.0);
        hall.clock(other, 2.0, 0.0);
        int sum = hall.job(3, other, other, 1);
        hall.clock(sum, 2.0, 0.0);
        Check.same("two at once and two later", hall.tick(2.0), 4);
        Check.same("the SUM came after", hall.get(sum), 4);
        Check.same("the next one", hall.due(), 3.0);
        WorkHall order = new WorkHall(1, 1, 4, 0);
        order.submit(Check.value(order, 5));
        int first = Check.value(order, 5);
        int second = Check.value(order, 5);
        order.clock(first, 1.0, 1.0);
        order.clock(second, 2.0, 0.0);
        order.tick(1.0);
        order.cancel(first, false);
        int again = Check.value(order, 5);
        order.clock(again, 1.0, 0.0);
        Check.same("three fire", order.tick(1.0), 3);
        Check.same("put first", order.about(second, 3), 0);
        Check.same("put last", order.about(again, 3), 1);
        Check.same("a CANCELLED one goes on firing", order.due(), 3.0);
    }

    private static void timeIsThatOfTheEntry() {
        WorkHall hall = new WorkHall(1, 1, 2, 0);
        hall.submit(Check.value(hall, 1));
        hall.clock(Check.value(hall, 1), 3.0, 0.0);
        hall.tick(10.0);
        hall.step(1);
        Check.same("it came at 3.0 and was taken at 10.0", hall.delay(), 7.0);
    }

    private static void atMostTwentyTimes() {
        WorkHall hall = new WorkHall(1, 2, 4, 0);
        int job = Check.value(hall, 5);
        hall.submit(Check.value(hall, 1));
        hall.clock(job, 0.0, 0.5);
        Check.same("many are due", hall.tick(50.0), 20);
        Check.same("what is due stays behind", hall.due(), 10.0);
        int late = Check.value(hall, 5);
        hall.clock(late, 0.0, 0.0);
        Check.same("TIME is the goal even so", hall.tick(0.0), 20);
        Check.same("TIME did not go back", hall.due(), 20.0);
        hall.step(1);
        Check.same("the JOB came at 0.0", hall.delay(), 50.0);
        WorkHall exact = new WorkHall(1, 1, 0, 1);
        exact.clock(Check.value(exact, 5), 1.0, 1.0);
        Check.same("just twenty", exact.tick(20.0), 20);
        Check.same("none of them left", exact.tick(0.0), 0);
    }

    private static void jobsAreMadeNewAgain() {
        WorkHall hall = new WorkHall(1, 1, 1, 0);
        int done = Check.value(hall, 2);
        int failed = hall.job(1, 1, 0, 1);
        int next = Check.value(hall, 1);
        hall.then(done, next);
        hall.submit(done);
        hall.submit(failed);
        Check.same("all", hall.step(4), 2);
        Check.same("the NEXT found no room", Check.state(hall, next), 6);
        hall.clock(done, 0.0, 0.0);
        hall.clock(failed, 0.0, 0.0);
        Check.same("both", hall.tick(0.0), 2);
        Check.same("it is RUNNING with all its units", hall.worker(0), 2);
        Check.same("QUEUED again", Check.state(hall, failed), 1);
        Check.same("it threw nothing yet", hall.about(failed, 4), 0);
        Check.same("its NEXT stays", hall.about(done, 2), next);
        Check.same("again", hall.step(4), 2);
        Check.same("again its result", hall.get(done), 7);
    }

    private static void otherJobsAreLeftAlone() {
        WorkHall hall = new WorkHall(1, 1, 1, 0);
        int running = Check.value(hall, 5);
        int queued = Check.value(hall, 5);
        int refused = Check.value(hall, 5);
        int cancelled = Check.value(hall, 5);
        hall.submit(running);
        hall.submit(queued);
        Check.answer(() -> hall.submit(refused));
        hall.cancel(cancelled, false);
        hall.step(1);
        for (int job = 0; job < 4; job++) {
            hall.clock(job, 1.0, 0.0);
        }
        Check.same("all fire", hall.tick(1.0), 4);
        int[] due = {2, 1, 6, 5};
        for (int job = 0; job < 4; job++) {
            Check.same("STATE of " + job, Check.state(hall, job), due[job]);
        }
        Check.same("its units", hall.worker(0), 4);
    }

    private static void firingAtOnce() {
        WorkHall hall = Check.full(3);
        int value = Check.value(hall, 1);
        hall.clock(value, 1.0, 1.0);
        Check.same("three times", hall.tick(3.0), 3);
        Check.same("each time it ENDED", hall.count(6), 3);
        WorkHall refusing = Check.full(0);
        int job = Check.value(refusing, 1);
        refusing.clock(job, 1.0, 1.0);
        Check.same("fires although it is REFUSED", refusing.tick(3.0), 3);
        Check.same("its STATE", Check.state(refusing, job), 6);
        Check.same("the ENTRY stays", refusing.due(), 4.0);
    }

    private static void aClosingPool() {
        WorkHall hall = Check.full(3);
        int done = Check.value(hall, 1);
        hall.submit(done);
        hall.clock(done, 1.0, 1.0);
        hall.shut(false);
        Check.same("the ENTRY is still there", hall.count(4), 1);
        Check.same("it fires", hall.tick(5.0), 1);
        Check.same("the DONE job was made NEW and REFUSED", Check.state(hall, done), 6);
        Check.same("the ENTRY is gone", hall.count(4), 0);
    }

    private static void idleWorkersGo() {
        WorkHall hall = new WorkHall(1, 3, 0, 0);
        for (int i = 0; i < 3; i++) {
            hall.submit(Check.value(hall, 1 + i));
        }
        hall.step(1);
        hall.tick(10.0);
        hall.step(1);
        hall.tick(9.5);
        Check.same("19.5 is not enough", hall.count(1), 3);
        hall.tick(0.5);
        Check.same("20.0 is", hall.count(1), 2);
        Check.same("the BUSY one is second now", hall.about(2, 3), 1);
        hall.tick(10.0);
        Check.same("the other after its 20.0", hall.count(1), 1);
        hall.step(1);
        hall.tick(100.0);
        Check.same("CORE stay", hall.count(1), 1);
        Check.same("the most that were there", hall.count(7), 3);
    }

    private static void idleWorkersGoInOrder() {
        WorkHall hall = new WorkHall(1, 3, 0, 0);
        int[] costs = {3, 1, 2};
        for (int cost : costs) {
            hall.submit(Check.value(hall, cost));
        }
        hall.step(2);
        hall.tick(15.0);
        Check.same("IDLE workers go on being asked first", hall.submit(Check.value(hall, 5)), 2);
        Check.same("the first IDLE", hall.about(3, 3), 1);
        hall.tick(5.0);
        Check.same("the one that got a job stays", hall.count(1), 2);
        Check.same("its place", hall.about(3, 3), 1);
        hall.cancel(3, true);
        hall.cancel(0, true);
        hall.tick(20.0);
        Check.same("the first of two goes", hall.count(1), 1);
    }
}
