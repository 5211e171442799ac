/** Promise 13: count. */
public final class Promise13CountTest {
    public static void main(String[] args) {
        wrongArguments();
        everyCount();
        theMostWorkersAtATime();
        Check.end();
    }

    private static void wrongArguments() {
        WorkHall hall = new WorkHall(1, 1, 1, 0);
        for (int what : new int[] {-1, 8, Integer.MIN_VALUE, Integer.MAX_VALUE}) {
            Check.refused("count(" + what + ")", Check.ARGUMENT, () -> hall.count(what));
        }
    }

    private static void everyCount() {
        WorkHall hall = new WorkHall(2, 2, 3, 0);
        for (int i = 0; i < 4; i++) {
            hall.submit(Check.value(hall, 1 + i));
        }
        hall.clock(0, 9.0, 0.0);
        due(hall, "at first", 4, 2, 2, 2, 1, 0, 0, 2);
        hall.step(1);
        due(hall, "after a step", 4, 2, 2, 1, 1, 0, 1, 2);
        hall.cancel(1, true);
        hall.cancel(2, true);
        due(hall, "after cancelling", 4, 2, 1, 0, 1, 0, 1, 2);
        hall.shut(false);
        due(hall, "CLOSING", 4, 2, 1, 0, 1, 1, 1, 2);
        hall.step(4);
        due(hall, "ENDED", 4, 0, 0, 0, 0, 2, 2, 2);
    }

    private static void due(WorkHall hall, String when, int... counts) {
        for (int what = 0; what < counts.length; what++) {
            Check.same("count(" + what + ") " + when, hall.count(what), counts[what]);
        }
    }

    private static void theMostWorkersAtATime() {
        WorkHall hall = new WorkHall(0, 3, 0, 0);
        hall.submit(Check.crash(hall, 1));
        hall.submit(Check.crash(hall, 1));
        hall.step(1);
        Check.same("none is there", hall.count(1), 0);
        hall.submit(Check.value(hall, 1));
        Check.same("one is there", hall.count(1), 1);
        Check.same("the most were two", hall.count(7), 2);
        hall.submit(Check.value(hall, 1));
        hall.submit(Check.value(hall, 1));
        Check.same("the most are three", hall.count(7), 3);
    }
}
