/** Promise 11: about. */
public final class Promise11AboutTest {
    public static void main(String[] args) {
        wrongArguments();
        whatHasEnds();
        everyState();
        kindsAndNexts();
        places();
        theLastPlaces();
        noPlaceInTheOtherStates();
        whatWasThrown();
        zeroUnlessFailed();
        Check.end();
    }

    private static void wrongArguments() {
        WorkHall hall = new WorkHall(1, 1, 1, 0);
        Check.value(hall, 1);
        Check.refused("about(-1, 0)", Check.ARGUMENT, () -> hall.about(-1, 0));
        Check.refused("about(24, 0)", Check.ARGUMENT, () -> hall.about(24, 0));
        Check.refused("about(0, -1)", Check.ARGUMENT, () -> hall.about(0, -1));
        Check.refused("about(0, 5)", Check.ARGUMENT, () -> hall.about(0, 5));
        Check.refused("about(1, 0)", Check.NO_ELEMENT, () -> hall.about(1, 0));
        Check.refused("about(1, 5)", Check.ARGUMENT, () -> hall.about(1, 5));
    }

    /** "what 0 .. 4." */
    private static void whatHasEnds() {
        WorkHall hall = new WorkHall(1, 1, 1, 0);
        Check.value(hall, 1);
        int[] due = {0, 0, -1, -1, 0};
        for (int what = 0; what <= 4; what++) {
            Check.same("about(0, " + what + ")", hall.about(0, what), due[what]);
        }
        for (int what : new int[] {Integer.MIN_VALUE, -1, 5, Integer.MAX_VALUE}) {
            Check.refused("about(0, " + what + ")", Check.ARGUMENT, () -> hall.about(0, what));
        }
    }

    /** "3 its place in the QUEUE from 0, the WORKER's place that is BUSY with it" */
    private static void theLastPlaces() {
        WorkHall hall = new WorkHall(0, 5, 4, 0);
        for (int i = 0; i < 9; i++) {
            hall.submit(Check.value(hall, 5));
        }
        for (int job = 0; job < 4; job++) {
            Check.same("place in the QUEUE of " + job, hall.about(job, 3), job);
        }
        for (int job = 4; job < 9; job++) {
            Check.same("the WORKER's place of " + job, hall.about(job, 3), job - 4);
        }
    }

    /** "else -1" */
    private static void noPlaceInTheOtherStates() {
        WorkHall hall = Check.withEveryState(0, 7, 0);
        int[] due = {-1, 0, 0, -1, -1, -1, -1, 1};
        for (int job = 0; job <= 7; job++) {
            Check.same("place of JOB " + job, hall.about(job, 3), due[job]);
        }
    }

    /** "4 what it threw if it is FAILED, else 0": also if it was FAILED before. */
    private static void zeroUnlessFailed() {
        WorkHall hall = Check.withEveryState(0, 7, 0);
        for (int job = 0; job <= 7; job++) {
            Check.same("what JOB " + job + " threw", hall.about(job, 4), job == 4 ? 1 : 0);
        }
        hall.clock(4, 0.0, 0.0);
        hall.tick(0.0);
        Check.same("REFUSED after it was FAILED", Check.state(hall, 4), 6);
        Check.same("what it threw", hall.about(4, 4), 0);
    }

    private static void everyState() {
        WorkHall hall = new WorkHall(1, 1, 1, 0);
        for (int i = 0; i < 4; i++) {
            Check.value(hall, 1);
        }
        Check.same("NEW", hall.about(0, 0), 0);
        hall.submit(0);
        Check.same("RUNNING", hall.about(0, 0), 2);
        hall.submit(1);
        Check.same("QUEUED", hall.about(1, 0), 1);
        Check.answer(() -> hall.submit(2));
        Check.same("REFUSED", hall.about(2, 0), 6);
        hall.cancel(3, false);
        Check.same("CANCELLED", hall.about(3, 0), 5);
        hall.step(1);
        Check.same("DONE", hall.about(0, 0), 3);
        hall.submit(Check.crash(hall, 1));
        hall.step(2);
        Check.same("FAILED", hall.about(4, 0), 4);
    }

    private static void kindsAndNexts() {
        WorkHall hall = new WorkHall(1, 1, 1, 0);
        for (int kind = 0; kind <= 5; kind++) {
            hall.job(kind, 0, 0, 1);
            Check.same("KIND " + kind, hall.about(kind, 1), kind);
            Check.same("NEXT of " + kind, hall.about(kind, 2), -1);
        }
        hall.then(5, 0);
        Check.same("NEXT 0", hall.about(5, 2), 0);
        hall.submit(5);
        hall.step(1);
        Check.same("NEXT of a FAILED job", hall.about(5, 2), 0);
    }

    private static void places() {
        WorkHall hall = new WorkHall(2, 2, 2, 0);
        for (int i = 0; i < 4; i++) {
            hall.submit(Check.value(hall, i == 0 ? 1 : 4));
        }
        Check.value(hall, 1);
        int[] before = {0, 1, 0, 1, -1};
        for (int job = 0; job < 5; job++) {
            Check.same("place of " + job, hall.about(job, 3), before[job]);
        }
        hall.step(1);
        int[] after = {-1, 1, 0, 0, -1};
        for (int job = 0; job < 5; job++) {
            Check.same("place of " + job + " after", hall.about(job, 3), after[job]);
        }
    }

    private static void whatWasThrown() {
        WorkHall hall = Check.full(3);
        int[][] kinds = {{0, 0, 0, 0}, {1, 1, 0, 1}, {2, 9, 0, 2}, {3, 0, 0, 3}, {4, 0, 0, 4}, {5, 0, 0, 5}};
        for (int[] kind : kinds) {
            int job = hall.job(kind[0], kind[1], kind[2], 1);
            Check.same("before", hall.about(job, 4), 0);
            hall.submit(job);
            Check.same("what KIND " + kind[0] + " threw", hall.about(job, 4), kind[3]);
        }
    }
}
