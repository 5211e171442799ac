/** Terms: the CLOCK, which ENTRY is the first, and what it does when it FIRES. */
public final class TermsClockTest {
    public static void main(String[] args) {
        theLeastTimeIsFirst();
        ofTheSameTimeTheOnePutFirstIs();
        onePutAnewIsPutLast();
        aDoneOrFailedJobIsMadeNewAndSubmitted();
        aNewJobIsSubmitted();
        otherJobsAreLeft();
        aJobMadeNewMayBeTurnedAway();
        aPeriodOfZeroIsGone();
        theLeastPeriodIsPutAnew();
        itsOwnTimePlusThePeriod();
        aPoolThatIsNotOpenPutsNothingAnew();
        aFullClockPutsAnew();
        Check.end();
    }

    /** "the first one is that with the least time" */
    private static void theLeastTimeIsFirst() {
        double[] delays = {3.0, 1.0, Math.nextDown(1.0), 2.0, 0.0, Math.nextUp(1.0)};
        int[] order = {4, 2, 1, 5, 3, 0};
        WorkHall hall = roomy(delays.length);
        for (int job = 0; job < delays.length; job++) {
            hall.clock(job, delays[job], 0.0);
        }
        for (int i = 0; i < order.length; i++) {
            Check.same("due", hall.due(), delays[order[i]]);
            Check.same("the one that FIRES", hall.tick(delays[order[i]] - (i == 0 ? 0.0 : delays[order[i - 1]])), 1);
            Check.same("its JOB", Check.state(hall, order[i]) != 0, true);
        }
    }

    /** "of those the one put first": seen by who is taken first. */
    private static void ofTheSameTimeTheOnePutFirstIs() {
        int[] put = {6, 2, 8, 0, 4, 1, 7, 3, 5};
        WorkHall hall = roomy(put.length);
        for (int job : put) {
            hall.clock(job, 1.0, 0.0);
        }
        Check.same("all fire", hall.tick(1.0), put.length);
        int[] places = {0, 1, 2, 0, 1, 2, 3, 3, 4};
        int[] states = {2, 2, 2, 1, 1, 1, 1, 2, 2};
        for (int i = 0; i < put.length; i++) {
            Check.same("STATE of JOB " + put[i], Check.state(hall, put[i]), states[i]);
            Check.same("place of JOB " + put[i], hall.about(put[i], 3), places[i]);
        }
    }

    /** "it is put anew": behind those of the same time that were there before. */
    private static void onePutAnewIsPutLast() {
        WorkHall hall = Check.full(3);
        int early = hall.job(3, 2, 2, 1);
        int value = Check.value(hall, 1);
        hall.clock(early, 1.0, 1.0);
        hall.clock(value, 2.0, 0.0);
        hall.tick(1.0);
        Check.same("the SUM alone", hall.about(early, 4), 3);
        Check.same("both at 2.0", hall.tick(1.0), 2);
        Check.same("the SUM came last", hall.get(early), 14);
    }

    /** "its JOB is made NEW again if it is DONE or FAILED, and, if it is NEW, SUBMITTED" */
    private static void aDoneOrFailedJobIsMadeNewAndSubmitted() {
        for (int job = 3; job <= 4; job++) {
            WorkHall hall = Check.withEveryState(0, 7, 0);
            hall.cancel(1, false);
            int again = job;
            hall.clock(job, 0.0, 0.0);
            Check.same("it FIRES", hall.tick(0.0), 1);
            Check.same("it is QUEUED", Check.state(hall, job), 1);
            Check.same("it threw nothing", hall.about(job, 4), 0);
            Check.refused("it has no RESULT", Check.NO_ELEMENT, () -> hall.get(again));
            hall.step(3);
            Check.same("it is as before", Check.state(hall, job), job);
        }
    }

    private static void aNewJobIsSubmitted() {
        WorkHall hall = Check.withEveryState(0, 7, 0);
        hall.cancel(1, false);
        hall.clock(0, 0.0, 0.0);
        Check.same("it FIRES", hall.tick(0.0), 1);
        Check.same("it is QUEUED", hall.about(0, 3), 0);
    }

    /** QUEUED, RUNNING, CANCELLED and REFUSED JOBS stay so, and the ENTRY FIRES even so. */
    private static void otherJobsAreLeft() {
        for (int job : new int[] {1, 2, 5, 6}) {
            WorkHall hall = Check.withEveryState(0, 7, 0);
            if (job != 1) {
                // Room in the QUEUE, or else a REFUSED one that was SUBMITTED would be REFUSED again, unseen.
                hall.cancel(1, false);
            }
            String before = Looks.of(hall);
            hall.clock(job, 0.0, 0.0);
            Check.same("JOB " + job + " FIRES", hall.tick(0.0), 1);
            Check.same("nothing is changed by it", Looks.of(hall), before);
        }
    }

    private static void aJobMadeNewMayBeTurnedAway() {
        for (int job : new int[] {0, 3, 4}) {
            WorkHall hall = Check.withEveryState(0, 7, 0);
            hall.clock(job, 0.0, 2.0);
            Check.same("a full POOL FIRES", hall.tick(0.0), 1);
            Check.same("JOB " + job + " is REFUSED", Check.state(hall, job), 6);
            Check.same("the ENTRY is put anew", hall.due(), 2.0);
            Check.same("it FIRES again", hall.tick(2.0), 1);
            Check.same("JOB " + job + " stays REFUSED", Check.state(hall, job), 6);
        }
    }

    /** "if the period is above 0.0 .. else it is gone": 0.0 is not above 0.0. */
    private static void aPeriodOfZeroIsGone() {
        for (double period : new double[] {0.0, -0.0}) {
            WorkHall hall = Check.full(1);
            hall.clock(0, 1.0, period);
            Check.same("it FIRES", hall.tick(1.0), 1);
            Check.same("it is gone", hall.count(4), 0);
        }
    }

    private static void theLeastPeriodIsPutAnew() {
        WorkHall hall = Check.full(1);
        hall.clock(0, 0.0, Double.MIN_VALUE);
        Check.same("at 0.0 the time goes on", hall.tick(0.0), 1);
        Check.same("by so little", hall.due(), Double.MIN_VALUE);
        WorkHall later = Check.full(1);
        later.clock(0, 1.0, Double.MIN_VALUE);
        Check.same("at 1.0 it does not", later.tick(1.0), 20);
        Check.same("the ENTRY is there", later.due(), 1.0);
    }

    /** "with its time plus the period": not with TIME, if that is further on. */
    private static void itsOwnTimePlusThePeriod() {
        WorkHall hall = Check.full(1);
        hall.clock(0, 1.0, 1000.0);
        hall.tick(4.0);
        Check.same("not from 4.0", hall.due(), 1001.0);
        WorkHall late = Check.full(1);
        late.clock(0, 0.0, 1.0);
        late.tick(50.0);
        Check.same("twenty times", late.due(), 20.0);
        late.tick(0.0);
        Check.same("not from 50.0", late.due(), 40.0);
    }

    /** "and the POOL is OPEN": with a period above 0.0 too it is gone, whatever its JOB is. */
    private static void aPoolThatIsNotOpenPutsNothingAnew() {
        WorkHall hall = Check.withEveryState(0, 7, 0);
        for (int job = 0; job <= 6; job++) {
            hall.clock(job, 1.0, 1.0);
        }
        hall.shut(false);
        Check.same("each FIRES once", hall.tick(100.0), 7);
        Check.same("all are gone", hall.count(4), 0);
        int[] states = {6, 1, 2, 6, 6, 5, 6};
        for (int job = 0; job <= 6; job++) {
            Check.same("JOB " + job, Check.state(hall, job), states[job]);
        }
    }

    private static void aFullClockPutsAnew() {
        WorkHall hall = Check.full(1);
        for (int i = 0; i < 10; i++) {
            hall.clock(0, 1.0, 1.0);
        }
        Check.same("all FIRE", hall.tick(1.0), 10);
        Check.same("all are put anew", hall.count(4), 10);
        Check.same("due", hall.due(), 2.0);
    }

    /** Nine JOBS find a place: three WORKERS, four places in the QUEUE, two WORKERS more. */
    private static WorkHall roomy(int jobs) {
        WorkHall hall = new WorkHall(3, 5, 4, 0);
        for (int i = 0; i < jobs; i++) {
            Check.value(hall, 5);
        }
        return hall;
    }
}
