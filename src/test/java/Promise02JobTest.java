/** Promise 2: job makes a NEW JOB and answers its number. */
public final class Promise02JobTest {
    public static void main(String[] args) {
        numbersGoUpToTheLast();
        jobsThatAreOverCountToo();
        kindsHaveEnds();
        costsHaveEnds();
        rangesComeBeforeTheLimit();
        aClosedPoolStillMakesJobs();
        Check.end();
    }

    /** "24 are there: IllegalStateException. A JOB, NEW. Answers its number." */
    private static void numbersGoUpToTheLast() {
        WorkHall hall = new WorkHall(1, 1, 1, 0);
        for (int i = 0; i < 24; i++) {
            Check.same("job " + i, hall.job(i % 6, i, -i, 1 + i % 5), i);
            Check.same("state of job " + i, hall.about(i, 0), 0);
            Check.same("kind of job " + i, hall.about(i, 1), i % 6);
            Check.same("count(0) after job " + i, hall.count(0), i + 1);
        }
        Check.refused("the 25th job", Check.STATE, () -> hall.job(0, 0, 0, 1));
        Check.same("count(0) after the 25th", hall.count(0), 24);
    }

    private static void jobsThatAreOverCountToo() {
        WorkHall hall = new WorkHall(1, 1, 1, 3);
        for (int i = 0; i < 23; i++) {
            hall.cancel(Check.value(hall, 1), false);
        }
        Check.same("the 24th", Check.value(hall, 1), 23);
        Check.refused("the 25th", Check.STATE, () -> hall.job(0, 0, 0, 1));
        hall.shut(true);
        Check.refused("the 25th of an ENDED pool", Check.STATE, () -> hall.job(0, 0, 0, 1));
    }

    /** "kind 0 .. 5" */
    private static void kindsHaveEnds() {
        WorkHall hall = new WorkHall(1, 1, 1, 0);
        for (int kind : new int[] {Integer.MIN_VALUE, -1, 6, Integer.MAX_VALUE}) {
            Check.refused("kind " + kind, Check.ARGUMENT, () -> hall.job(kind, 0, 0, 1));
        }
        Check.same("no JOB was made", hall.count(0), 0);
        for (int kind = 0; kind <= 5; kind++) {
            Check.same("kind " + kind, hall.job(kind, Integer.MIN_VALUE, Integer.MAX_VALUE, 1), kind);
        }
    }

    /** "cost 1 .. 5" */
    private static void costsHaveEnds() {
        WorkHall hall = new WorkHall(1, 1, 1, 0);
        for (int cost : new int[] {Integer.MIN_VALUE, -1, 0, 6, Integer.MAX_VALUE}) {
            Check.refused("cost " + cost, Check.ARGUMENT, () -> hall.job(0, 0, 0, cost));
        }
        Check.same("no JOB was made", hall.count(0), 0);
        for (int cost = 1; cost <= 5; cost++) {
            Check.same("cost " + cost, hall.job(0, Integer.MAX_VALUE, Integer.MIN_VALUE, cost), cost - 1);
        }
    }

    private static void rangesComeBeforeTheLimit() {
        WorkHall hall = new WorkHall(1, 1, 1, 0);
        for (int i = 0; i < 24; i++) {
            Check.value(hall, 1);
        }
        Check.refused("kind 6 when 24 are there", Check.ARGUMENT, () -> hall.job(6, 0, 0, 1));
        Check.refused("cost 0 when 24 are there", Check.ARGUMENT, () -> hall.job(0, 0, 0, 0));
    }

    private static void aClosedPoolStillMakesJobs() {
        WorkHall hall = new WorkHall(1, 1, 1, 0);
        hall.shut(true);
        Check.same("job in an ENDED pool", hall.job(0, 1, 1, 1), 0);
    }
}
