/** Promise 8: clock puts ENTRIES. */
public final class Promise08ClockTest {
    public static void main(String[] args) {
        wrongArguments();
        delaysHaveEnds();
        periodsHaveEnds();
        endsOfTheRanges();
        atMostTen();
        anEntryThatIsGoneMakesRoom();
        onlyAnOpenPool();
        entriesCountFromNow();
        Check.end();
    }

    private static void wrongArguments() {
        WorkHall hall = new WorkHall(1, 1, 1, 0);
        Check.value(hall, 1);
        Check.refused("clock(-1)", Check.ARGUMENT, () -> hall.clock(-1, 0.0, 0.0));
        Check.refused("clock(24)", Check.ARGUMENT, () -> hall.clock(24, 0.0, 0.0));
        Check.refused("clock(1)", Check.NO_ELEMENT, () -> hall.clock(1, 0.0, 0.0));
        double[] wrong = {-0.5, -Double.MIN_VALUE, 1000.0000001, Double.NaN,
            Double.POSITIVE_INFINITY, Double.NEGATIVE_INFINITY, Double.MAX_VALUE};
        for (double number : wrong) {
            Check.refused("delay " + number, Check.ARGUMENT, () -> hall.clock(0, number, 0.0));
            Check.refused("period " + number, Check.ARGUMENT, () -> hall.clock(0, 0.0, number));
            Check.refused("range before existence " + number, Check.ARGUMENT, () -> hall.clock(1, number, 0.0));
        }
        Check.same("no ENTRY", hall.count(4), 0);
    }

    /** "delay 0.0 .. 1000.0" */
    private static void delaysHaveEnds() {
        WorkHall hall = Check.full(1);
        for (double delay : new double[] {1000.0, Math.nextDown(1000.0), 1.0, Double.MIN_VALUE, 0.0}) {
            hall.clock(0, delay, 0.0);
            Check.same("due, delay " + delay, hall.due(), delay);
        }
        Check.refused("below", Check.ARGUMENT, () -> hall.clock(0, -Double.MIN_VALUE, 0.0));
        Check.refused("above", Check.ARGUMENT, () -> hall.clock(0, Math.nextUp(1000.0), 0.0));
        Check.same("ENTRIES", hall.count(4), 5);
    }

    /** "period 0.0 .. 1000.0" */
    private static void periodsHaveEnds() {
        for (double period : new double[] {1000.0, Math.nextDown(1000.0), 1.0, Double.MIN_VALUE}) {
            WorkHall hall = Check.full(1);
            hall.clock(0, 0.0, period);
            hall.tick(0.0);
            Check.same("due, period " + period, hall.due(), period);
        }
        WorkHall none = Check.full(1);
        none.clock(0, 0.0, 0.0);
        none.tick(0.0);
        Check.same("period 0.0", none.count(4), 0);
        Check.refused("below", Check.ARGUMENT, () -> none.clock(0, 0.0, -Double.MIN_VALUE));
        Check.refused("above", Check.ARGUMENT, () -> none.clock(0, 0.0, Math.nextUp(1000.0)));
        Check.same("ENTRIES", none.count(4), 0);
    }

    /** "10 ENTRIES are there": those that are there now, not those that were put. */
    private static void anEntryThatIsGoneMakesRoom() {
        WorkHall hall = Check.full(1);
        for (int i = 0; i < 10; i++) {
            Check.same("ENTRY " + i, hall.clock(0, i, 0.0), i + 1);
        }
        for (int i = 0; i < 10; i++) {
            Check.refused("an 11th", Check.STATE, () -> hall.clock(0, 500.0, 0.0));
            Check.same("one FIRES", hall.tick(i == 0 ? 0.0 : 1.0), 1);
            Check.same("there is room for one", hall.clock(0, 500.0, 0.0), 10);
        }
    }

    private static void endsOfTheRanges() {
        WorkHall hall = new WorkHall(1, 1, 1, 0);
        Check.value(hall, 1);
        Check.same("greatest", hall.clock(0, 1000.0, 1000.0), 1);
        Check.same("due", hall.due(), 1000.0);
        Check.same("least", hall.clock(0, 0.0, 0.0), 2);
        Check.same("due now", hall.due(), 0.0);
        Check.same("the other zero", hall.clock(0, -0.0, -0.0), 3);
        Check.same("due is the plain zero", hall.due(), 0.0);
        Check.same("nothing happened yet", Check.state(hall, 0), 0);
    }

    /** "or 10 ENTRIES are there: IllegalStateException .. Answers how many there are." */
    private static void atMostTen() {
        WorkHall hall = new WorkHall(1, 1, 1, 0);
        Check.value(hall, 1);
        for (int i = 1; i <= 10; i++) {
            Check.same("ENTRY " + i, hall.clock(0, 1.0, i % 2), i);
        }
        Check.refused("one more", Check.STATE, () -> hall.clock(0, 1.0, 0.0));
        Check.refused("ranges come first", Check.ARGUMENT, () -> hall.clock(0, 1001.0, 0.0));
        Check.refused("jobs come first", Check.NO_ELEMENT, () -> hall.clock(1, 1.0, 0.0));
        Check.same("all fire, five stay", hall.tick(1.0), 10);
        Check.same("there is room again", hall.clock(0, 1.0, 0.0), 6);
    }

    /** "The POOL is not OPEN .. : IllegalStateException." */
    private static void onlyAnOpenPool() {
        WorkHall hall = Check.full(0);
        hall.shut(false);
        Check.refused("CLOSING", Check.STATE, () -> hall.clock(0, 1.0, 0.0));
        hall.step(5);
        Check.refused("ENDED", Check.STATE, () -> hall.clock(0, 1.0, 0.0));
        Check.refused("ENDED, wrong job", Check.NO_ELEMENT, () -> hall.clock(1, 1.0, 0.0));
    }

    /** "An ENTRY with TIME plus delay and the period." */
    private static void entriesCountFromNow() {
        WorkHall hall = Check.full(1);
        hall.tick(2.5);
        hall.clock(0, 4.0, 0.0);
        Check.same("TIME plus delay", hall.due(), 6.5);
    }
}
