/** What the tests share: each prints the answers that are not as due, and ends with exit code 1 if there was one. */
final class Check {
    /** A call of the face; what it answers is boxed. */
    interface Call {
        Object run();
    }

    static final Class<? extends RuntimeException> ARGUMENT = IllegalArgumentException.class;
    static final Class<? extends RuntimeException> NO_ELEMENT = java.util.NoSuchElementException.class;
    static final Class<? extends RuntimeException> STATE = IllegalStateException.class;
    static final Class<? extends RuntimeException> UNSUPPORTED = UnsupportedOperationException.class;
    static final Class<? extends RuntimeException> BOUNDS = IndexOutOfBoundsException.class;
    static final Class<? extends RuntimeException> ARITHMETIC = ArithmeticException.class;

    private static int wrong = 0;
    private static int checked = 0;

    private Check() {
    }

    static void same(String call, Object got, Object due) {
        checked++;
        if (!got.equals(due)) {
            wrong++;
            System.out.println(call + " answered " + got + ", due is " + due);
        }
    }

    static void refused(String call, Class<? extends RuntimeException> due, Call made) {
        same(call, answer(made), due.getSimpleName());
    }

    /** The answer, or the name of what was thrown. */
    static Object answer(Call made) {
        try {
            return made.run();
        } catch (RuntimeException thrown) {
            return thrown.getClass().getSimpleName();
        }
    }

    static void end() {
        System.out.println(checked + " answers, " + wrong + " not as due");
        if (wrong != 0 || checked == 0) {
            System.exit(1);
        }
    }

    static int value(WorkHall hall, int cost) {
        return hall.job(0, 7, 0, cost);
    }

    static int crash(WorkHall hall, int cost) {
        return hall.job(5, 0, 0, cost);
    }

    static int fork(WorkHall hall, int target, int cost) {
        return hall.job(4, target, 0, cost);
    }

    /** A hall with one worker that is BUSY with job 0 for five units, no room and no other workers. */
    static WorkHall full(int policy) {
        WorkHall hall = new WorkHall(1, 1, 0, policy);
        hall.submit(value(hall, 5));
        return hall;
    }

    /** A full hall that is CLOSING, with jobs 1 to 4 DONE, FAILED, CANCELLED and REFUSED. */
    static WorkHall withJobsThatAreOver() {
        WorkHall hall = full(3);
        hall.submit(value(hall, 1));
        hall.submit(crash(hall, 1));
        hall.cancel(value(hall, 1), false);
        hall.shut(false);
        int late = value(hall, 1);
        answer(() -> hall.submit(late));
        for (int job = 1; job <= 4; job++) {
            same("STATE of job " + job, state(hall, job), 2 + job);
        }
        return hall;
    }

    /**
     * An OPEN hall with POLICY 0 whose jobs 0 to 6 are in the STATES 0 to 6, and whose job 7 is of this kind and
     * RUNNING, two STEPS from its end; the QUEUE and the workers are full.
     */
    static WorkHall withEveryState(int kind, int a, int b) {
        WorkHall hall = new WorkHall(2, 2, 1, 0);
        int[] costs = {1, 5, 5, 1, 1, 1, 1};
        for (int job = 0; job <= 6; job++) {
            hall.job(job == 4 ? 1 : 0, 7, 0, costs[job]);
        }
        hall.submit(3);
        hall.submit(4);
        hall.step(1);
        hall.submit(2);
        hall.submit(hall.job(kind, a, b, 2));
        hall.submit(1);
        hall.cancel(5, false);
        answer(() -> hall.submit(6));
        for (int job = 0; job <= 6; job++) {
            same("STATE of job " + job, state(hall, job), job);
        }
        same("STATE of job 7", state(hall, 7), 2);
        return hall;
    }

    static int state(WorkHall hall, int job) {
        return hall.about(job, 0);
    }
}
