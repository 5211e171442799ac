/** Promise 4: then sets the NEXT of a JOB, which is SUBMITTED when that JOB is DONE. */
public final class Promise04ThenTest {
    public static void main(String[] args) {
        wrongJobs();
        twoThatAreTheSame();
        theNextBeforeIsAnswered();
        theFirstAndTheLastJob();
        jobsThatAreOverTakeNoNext();
        eachStateTakesANextOrNot();
        onlyDoneJobsGoOn();
        onlyNewJobsFollow();
        theWorkerCountsAsBusySoLong();
        aRefusedNextStaysRefused();
        ringsAtOnceEnd();
        Check.end();
    }

    private static void wrongJobs() {
        WorkHall hall = new WorkHall(1, 1, 1, 0);
        Check.value(hall, 1);
        Check.value(hall, 1);
        Check.refused("then(-1, 0)", Check.ARGUMENT, () -> hall.then(-1, 0));
        Check.refused("then(0, -1)", Check.ARGUMENT, () -> hall.then(0, -1));
        Check.refused("then(24, 0)", Check.ARGUMENT, () -> hall.then(24, 0));
        Check.refused("then(0, 24)", Check.ARGUMENT, () -> hall.then(0, 24));
        Check.refused("then(5, 24)", Check.ARGUMENT, () -> hall.then(5, 24));
        Check.refused("then(24, 5)", Check.ARGUMENT, () -> hall.then(24, 5));
        Check.refused("then(0, 2)", Check.NO_ELEMENT, () -> hall.then(0, 2));
        Check.refused("then(0, 23)", Check.NO_ELEMENT, () -> hall.then(0, 23));
        Check.refused("then(23, 0)", Check.NO_ELEMENT, () -> hall.then(23, 0));
        Check.refused("then(2, 2)", Check.NO_ELEMENT, () -> hall.then(2, 2));
        Check.refused("then(24, 24)", Check.ARGUMENT, () -> hall.then(24, 24));
        Check.refused("then(2, 0)", Check.NO_ELEMENT, () -> hall.then(2, 0));
        Check.refused("then(0, 0)", Check.ARGUMENT, () -> hall.then(0, 0));
        Check.same("the NEXT of 0", hall.about(0, 2), -1);
    }

    /** "Two JOBS, not the same (IllegalArgumentException)": in each STATE of theirs. */
    private static void twoThatAreTheSame() {
        WorkHall hall = Check.withEveryState(0, 7, 0);
        for (int i = 0; i <= 7; i++) {
            int job = i;
            Check.refused("then(" + job + ", " + job + ")", Check.ARGUMENT, () -> hall.then(job, job));
            Check.same("its NEXT", hall.about(job, 2), -1);
        }
    }

    private static void theFirstAndTheLastJob() {
        WorkHall hall = new WorkHall(1, 1, 1, 0);
        for (int i = 0; i < 24; i++) {
            Check.value(hall, 1);
        }
        Check.same("then(23, 0)", hall.then(23, 0), -1);
        Check.same("its NEXT", hall.about(23, 2), 0);
        Check.same("NEXT 0 before", hall.then(23, 22), 0);
        Check.same("then(0, 23)", hall.then(0, 23), -1);
        Check.same("NEXT 23 before", hall.then(0, 1), 23);
    }

    /** "the first is not NEW, QUEUED or RUNNING: IllegalStateException": the other may be in any STATE. */
    private static void eachStateTakesANextOrNot() {
        for (int state = 0; state <= 6; state++) {
            WorkHall hall = Check.withEveryState(0, 7, 0);
            int job = state;
            Check.same("then(" + job + ", 7)", Check.answer(() -> hall.then(job, 7)),
                    state <= 2 ? -1 : "IllegalStateException");
            Check.same("its NEXT", hall.about(job, 2), state <= 2 ? 7 : -1);
            Check.same("then(7, " + job + ")", hall.then(7, job), -1);
        }
    }

    /** "Its NEXT is the other. Answers the NEXT before, -1 if it had none." */
    private static void theNextBeforeIsAnswered() {
        WorkHall hall = new WorkHall(1, 1, 1, 0);
        Check.value(hall, 5);
        Check.value(hall, 5);
        Check.value(hall, 5);
        Check.same("then(0, 1)", hall.then(0, 1), -1);
        Check.same("then(0, 2)", hall.then(0, 2), 1);
        Check.same("then(0, 2) again", hall.then(0, 2), 2);
        Check.same("then(2, 0)", hall.then(2, 0), -1);
        Check.same("about(0, 2)", hall.about(0, 2), 2);
        hall.submit(0);
        hall.submit(1);
        Check.same("then of a RUNNING job", hall.then(0, 1), 2);
        Check.same("then of a QUEUED job", hall.then(1, 0), -1);
    }

    private static void jobsThatAreOverTakeNoNext() {
        WorkHall hall = Check.withJobsThatAreOver();
        for (int job = 1; job <= 4; job++) {
            int first = job;
            Check.refused("then(" + job + ", 0)", Check.STATE, () -> hall.then(first, 0));
        }
        Check.same("a job that is over may follow", hall.then(0, 1), -1);
        Check.refused("the same comes before the STATE", Check.ARGUMENT, () -> hall.then(1, 1));
    }

    private static void onlyDoneJobsGoOn() {
        WorkHall hall = new WorkHall(1, 1, 1, 0);
        int job = Check.value(hall, 1);
        int failing = hall.job(1, 1, 0, 1);
        int last = Check.value(hall, 1);
        hall.then(job, failing);
        hall.then(failing, last);
        hall.submit(job);
        Check.same("the first step", hall.step(1), 1);
        Check.same("the NEXT of a DONE job", Check.state(hall, failing), 2);
        Check.same("the second step", hall.step(1), 1);
        Check.same("the NEXT of a FAILED job", Check.state(hall, last), 0);
    }

    private static void onlyNewJobsFollow() {
        WorkHall hall = new WorkHall(1, 1, 1, 0);
        int job = Check.value(hall, 1);
        int gone = Check.value(hall, 1);
        hall.then(job, gone);
        hall.cancel(gone, false);
        hall.submit(job);
        hall.step(1);
        Check.same("a CANCELLED NEXT", Check.state(hall, gone), 5);
        Check.same("no worker is BUSY", hall.count(2), 0);
    }

    private static void theWorkerCountsAsBusySoLong() {
        WorkHall hall = new WorkHall(1, 2, 0, 0);
        int job = Check.value(hall, 1);
        int next = Check.value(hall, 3);
        hall.then(job, next);
        hall.submit(job);
        hall.step(1);
        Check.same("the NEXT has a new worker", hall.about(next, 3), 1);
        Check.same("the worker is IDLE", hall.worker(0), 0);
    }

    private static void aRefusedNextStaysRefused() {
        WorkHall hall = new WorkHall(1, 1, 0, 0);
        int job = Check.value(hall, 1);
        int next = Check.value(hall, 3);
        hall.then(job, next);
        hall.submit(job);
        Check.same("the step", hall.step(1), 1);
        Check.same("the job", Check.state(hall, job), 3);
        Check.same("the NEXT", Check.state(hall, next), 6);
    }

    private static void ringsAtOnceEnd() {
        WorkHall hall = Check.full(3);
        int first = Check.value(hall, 1);
        int second = Check.value(hall, 1);
        hall.then(first, second);
        hall.then(second, first);
        Check.same("submit into a ring", hall.submit(first), 3);
        Check.same("both have ENDED once", hall.count(6), 2);
    }
}
