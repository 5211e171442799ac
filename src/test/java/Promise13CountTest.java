/** Promise 13: count. */
public final class Promise13CountTest {
    public static void main(String[] args) {
        wrongArguments();
        theGreatestCounts();
        everyCount();
        theMostWorkersAtATime();
        Check.end();
    }

    /** "what 0 .. 7." */
    private static void wrongArguments() {
        WorkHall hall = new WorkHall(1, 1, 1, 0);
        for (int what : new int[] {-1, 8, Integer.MIN_VALUE, Integer.MAX_VALUE}) {
            Check.refused("count(" + what + ")", Check.ARGUMENT, () -> hall.count(what));
        }
    }

    /** What there can be at most: 24 JOBS, 5 WORKERS, 4 in the QUEUE, 10 ENTRIES. */
    private static void theGreatestCounts() {
        WorkHall hall = new WorkHall(3, 5, 4, 3);
        due(hall, "at 0", 0, 0, 0, 0, 0, 0, 0, 0);
        for (int i = 0; i < 24; i++) {
            hall.submit(Check.value(hall, 5));
        }
        for (int i = 0; i < 10; i++) {
            hall.clock(23, 1000.0, 0.0);
        }
        due(hall, "when all is full", 24, 5, 5, 4, 10, 0, 15, 5);
        hall.step(10);
        due(hall, "when all is done", 24, 5, 0, 0, 10, 0, 24, 5);
        hall.shut(false);
        due(hall, "when all is over", 24, 0, 0, 0, 0, 2, 24, 5);
    }

    private static void everyCount() {
        WorkHall hall = new WorkHall(2, 2, 3, 0);
        for (int i = 0; i < 4; i++) {
            hall.submit(Check.value(hall, 1 + i));
        }
        hall.clock(0, 9.0, 0.0);
        due(hall, "at first", 4, 2, 2, 2, 1, 0, 0, 2);
        hall.step(1);
        due(hall, "after a step", 4, 2, 2, 1, 1, 0, 1, 2);
        hall.cancel(1, true);
        hall.cancel(2, true);
        due(hall, "after cancelling", 4, 2, 1, 0, 1, 0, 1, 2);
        hall.shut(false);
        due(hall, "CLOSING", 4, 2, 1, 0, 1, 1, 1, 2);
        hall.step(4);
        due(hall, "ENDED", 4, 0, 0, 0, 0, 2, 2, 2);
    }

    private static void due(WorkHall hall, String when, int... counts) {
        for (int what = 0; what < counts.length; what++) {
            Check.same("count(" + what + ") " + when, hall.count(what), counts[what]);
        }
    }

    /** "7 the most WORKERS that were there at a time": it never goes down, and counts no WORKER twice. */
    private static void theMostWorkersAtATime() {
        WorkHall hall = new WorkHall(0, 3, 0, 0);
        hall.submit(Check.crash(hall, 1));
        hall.submit(Check.crash(hall, 1));
        hall.step(1);
        Check.same("none is there", hall.count(1), 0);
        hall.submit(Check.value(hall, 1));
        Check.same("one is there", hall.count(1), 1);
        Check.same("the most were two", hall.count(7), 2);
        hall.submit(Check.value(hall, 1));
        hall.submit(Check.value(hall, 1));
        Check.same("the most are three", hall.count(7), 3);
    }
}
