/** Promise 14: delay is the mean of how long taken JOBS were in the QUEUE. */
public final class Promise14DelayTest {
    public static void main(String[] args) {
        neverTaken();
        neverInTheQueue();
        aDelayOfZeroIsAddedToo();
        theMean();
        throughCrashAndCancel();
        Check.end();
    }

    /** JOBS that a WORKER is BUSY with at once, or that are PERFORMED at once, add nothing. */
    private static void neverInTheQueue() {
        WorkHall hall = new WorkHall(1, 2, 0, 3);
        for (int i = 0; i < 3; i++) {
            hall.submit(Check.value(hall, 1));
        }
        hall.tick(5.0);
        hall.step(5);
        hall.submit(Check.value(hall, 1));
        hall.step(5);
        Check.same("all have ENDED", hall.count(6), 4);
        Check.refused("delay", Check.ARITHMETIC, () -> hall.delay());
    }

    private static void aDelayOfZeroIsAddedToo() {
        WorkHall hall = new WorkHall(1, 1, 2, 0);
        hall.submit(Check.value(hall, 1));
        hall.submit(Check.value(hall, 1));
        hall.step(1);
        Check.same("one of 0.0", hall.delay(), 0.0);
        hall.submit(Check.value(hall, 1));
        hall.tick(3.0);
        hall.step(1);
        Check.same("and one of 3.0", hall.delay(), 1.5);
    }

    /** "never: ArithmeticException": what is CANCELLED, dropped or shut off was not taken. */
    private static void neverTaken() {
        WorkHall hall = new WorkHall(1, 1, 2, 2);
        Check.refused("of a new pool", Check.ARITHMETIC, () -> hall.delay());
        for (int i = 0; i < 4; i++) {
            hall.submit(Check.value(hall, 1));
        }
        hall.tick(5.0);
        hall.cancel(2, false);
        hall.shut(true);
        Check.refused("of JOBS that left otherwise", Check.ARITHMETIC, () -> hall.delay());
    }

    private static void theMean() {
        WorkHall hall = new WorkHall(1, 1, 3, 0);
        hall.submit(Check.value(hall, 1));
        hall.submit(Check.value(hall, 1));
        hall.tick(0.5);
        hall.submit(Check.value(hall, 1));
        hall.tick(0.25);
        hall.submit(Check.value(hall, 1));
        Check.refused("none was taken yet", Check.ARITHMETIC, () -> hall.delay());
        hall.step(1);
        Check.same("one", hall.delay(), 0.75);
        hall.step(1);
        Check.same("two", hall.delay(), 0.5);
        hall.tick(1.0);
        hall.step(1);
        Check.same("three", hall.delay(), 2.0 / 3);
        hall.submit(Check.value(hall, 1));
        hall.step(1);
        Check.same("four", hall.delay(), 0.5);
        hall.shut(true);
        Check.same("of an ENDED pool", hall.delay(), 0.5);
    }

    private static void throughCrashAndCancel() {
        WorkHall hall = new WorkHall(1, 1, 2, 0);
        hall.submit(Check.crash(hall, 1));
        hall.submit(Check.value(hall, 5));
        hall.submit(Check.value(hall, 5));
        hall.tick(3.0);
        hall.step(1);
        Check.same("a new WORKER took it", hall.delay(), 3.0);
        hall.tick(2.0);
        hall.cancel(1, true);
        Check.same("taken after cancel", hall.delay(), 4.0);
    }
}
