/** Promise 2: job makes a NEW JOB and answers its number. */
public final class Promise02JobTest {
    public static void main(String[] args) {
        numbersGoUpToTheLast();
        kindsAndCostsHaveEnds();
        rangesComeBeforeTheLimit();
        aClosedPoolStillMakesJobs();
        Check.end();
    }

    private static void numbersGoUpToTheLast() {
        WorkHall hall = new WorkHall(1, 1, 1, 0);
        for (int i = 0; i < 24; i++) {
            Check.same("job " + i, hall.job(i % 6, i, -i, 1 + i % 5), i);
            Check.same("state of job " + i, hall.about(i, 0), 0);
            Check.same("kind of job " + i, hall.about(i, 1), i % 6);
            Check.same("count(0) after job " + i, hall.count(0), i + 1);
        }
        Check.refused("the 25th job", Check.STATE, () -> hall.job(0, 0, 0, 1));
        Check.same("count(0) after the 25th", hall.count(0), 24);
    }

    private static void kindsAndCostsHaveEnds() {
        WorkHall hall = new WorkHall(1, 1, 1, 0);
        for (int kind : new int[] {-1, 6, Integer.MIN_VALUE, Integer.MAX_VALUE}) {
            Check.refused("kind " + kind, Check.ARGUMENT, () -> hall.job(kind, 0, 0, 1));
        }
        for (int cost : new int[] {0, 6, -1, Integer.MIN_VALUE, Integer.MAX_VALUE}) {
            Check.refused("cost " + cost, Check.ARGUMENT, () -> hall.job(0, 0, 0, cost));
        }
        Check.same("count(0) after wrong jobs", hall.count(0), 0);
        Check.same("kind 5, cost 5", hall.job(5, Integer.MIN_VALUE, Integer.MAX_VALUE, 5), 0);
        Check.same("kind 0, cost 1", hall.job(0, Integer.MAX_VALUE, Integer.MIN_VALUE, 1), 1);
    }

    private static void rangesComeBeforeTheLimit() {
        WorkHall hall = new WorkHall(1, 1, 1, 0);
        for (int i = 0; i < 24; i++) {
            Check.value(hall, 1);
        }
        Check.refused("kind 6 when 24 are there", Check.ARGUMENT, () -> hall.job(6, 0, 0, 1));
        Check.refused("cost 0 when 24 are there", Check.ARGUMENT, () -> hall.job(0, 0, 0, 0));
    }

    private static void aClosedPoolStillMakesJobs() {
        WorkHall hall = new WorkHall(1, 1, 1, 0);
        hall.shut(true);
        Check.same("job in an ENDED pool", hall.job(0, 1, 1, 1), 0);
    }
}
