/** Promise 7: get answers the RESULT, or throws what the JOB threw. */
public final class Promise07GetTest {
    public static void main(String[] args) {
        wrongJobs();
        eachState();
        outcomes();
        jobsWithoutOutcome();
        Check.end();
    }

    private static void wrongJobs() {
        WorkHall hall = new WorkHall(1, 1, 1, 0);
        Check.refused("get(-1)", Check.ARGUMENT, () -> hall.get(-1));
        Check.refused("get(24)", Check.ARGUMENT, () -> hall.get(24));
        Check.refused("get(0)", Check.NO_ELEMENT, () -> hall.get(0));
        Check.refused("get(23)", Check.NO_ELEMENT, () -> hall.get(23));
    }

    /** "DONE: its RESULT. FAILED: what it threw is thrown .. Else NoSuchElementException." */
    private static void eachState() {
        WorkHall hall = Check.withEveryState(0, 7, 0);
        String no = "NoSuchElementException";
        Object[] due = {no, no, no, 7, "ArithmeticException", no, no};
        for (int state = 0; state <= 6; state++) {
            int job = state;
            Check.same("get, STATE " + state, Check.answer(() -> hall.get(job)), due[state]);
        }
    }

    private static void outcomes() {
        Check.same("VALUE", outcome(0, -5, 1), -5);
        Check.same("a RESULT of 0", outcome(0, 0, 1), 0);
        Check.same("a RESULT of -1", outcome(0, -1, 1), -1);
        Check.same("the least RESULT", outcome(0, Integer.MIN_VALUE, 1), Integer.MIN_VALUE);
        Check.same("DIVIDE", outcome(1, 7, -2), -3);
        Check.same("DIVIDE by 0", outcome(1, 7, 0), "ArithmeticException");
        Check.same("PICK 4", outcome(2, 4, 11), 11);
        Check.same("PICK 5", outcome(2, 5, 11), "IndexOutOfBoundsException");
        Check.same("SUM of itself", outcome(3, 0, 0), "IllegalStateException");
        Check.same("FORK of itself", outcome(4, 0, 0), "UnsupportedOperationException");
        Check.same("CRASH", outcome(5, 0, 0), "IllegalStateException");
    }

    private static Object outcome(int kind, int a, int b) {
        WorkHall hall = new WorkHall(1, 1, 1, 0);
        hall.submit(hall.job(kind, a, b, 1));
        hall.step(1);
        Object first = Check.answer(() -> hall.get(0));
        Check.same("get again", Check.answer(() -> hall.get(0)), first);
        return first;
    }

    private static void jobsWithoutOutcome() {
        WorkHall hall = new WorkHall(1, 1, 1, 0);
        for (int i = 0; i < 3; i++) {
            Check.value(hall, 1);
        }
        Check.refused("NEW", Check.NO_ELEMENT, () -> hall.get(0));
        hall.submit(0);
        Check.refused("RUNNING", Check.NO_ELEMENT, () -> hall.get(0));
        hall.submit(1);
        Check.refused("QUEUED", Check.NO_ELEMENT, () -> hall.get(1));
        Check.answer(() -> hall.submit(2));
        Check.refused("REFUSED", Check.NO_ELEMENT, () -> hall.get(2));
        hall.cancel(1, false);
        Check.refused("CANCELLED", Check.NO_ELEMENT, () -> hall.get(1));
        hall.step(1);
        hall.clock(0, 0.0, 0.0);
        hall.tick(0.0);
        Check.refused("RUNNING again after it was DONE", Check.NO_ELEMENT, () -> hall.get(0));
    }
}
