/** Promise 1: the constructor clamps, and a new pool is OPEN and without WORKERS. */
public final class Promise01NewObjectTest {
    private static final int LEAST = Integer.MIN_VALUE;
    private static final int GREATEST = Integer.MAX_VALUE;

    public static void main(String[] args) {
        aNewPoolIsOpenAndEmpty();
        coreIsClamped();
        mostIsClamped();
        mostIsNotBelowCore();
        roomIsClamped();
        policyIsClamped();
        Check.end();
    }

    /** "The POOL is OPEN, without WORKERS." */
    private static void aNewPoolIsOpenAndEmpty() {
        WorkHall hall = new WorkHall(3, 5, 4, 3);
        for (int what = 0; what <= 7; what++) {
            Check.same("count(" + what + ") of a new pool", hall.count(what), 0);
        }
        Check.refused("worker(0) of a new pool", Check.NO_ELEMENT, () -> hall.worker(0));
        Check.refused("about(0, 0) of a new pool", Check.NO_ELEMENT, () -> hall.about(0, 0));
        Check.refused("delay of a new pool", Check.ARITHMETIC, () -> hall.delay());
        Check.refused("due of a new pool", Check.NO_ELEMENT, () -> hall.due());
        Check.same("step of a new pool", hall.step(10), 0);
        Check.same("tick of a new pool", hall.tick(100.0), 0);
    }

    /** "core 0 .. 3" */
    private static void coreIsClamped() {
        int[][] cases = {{LEAST, 0}, {-5, 0}, {-1, 0}, {0, 0}, {1, 1}, {2, 2}, {3, 3}, {4, 3}, {GREATEST, 3}};
        for (int[] one : cases) {
            Check.same("core " + one[0], workersBeforeQueue(one[0]), one[1]);
        }
    }

    /** "most 1 .. 5" */
    private static void mostIsClamped() {
        int[][] cases = {{LEAST, 1}, {-1, 1}, {0, 1}, {1, 1}, {2, 2}, {3, 3}, {4, 4}, {5, 5}, {6, 5}, {GREATEST, 5}};
        for (int[] one : cases) {
            Check.same("most " + one[0], workersAtMost(0, one[0]), one[1]);
        }
    }

    /** "but not below core": below the core that is clamped, too. */
    private static void mostIsNotBelowCore() {
        int[][] cases = {{3, 1, 3}, {3, 2, 3}, {3, 3, 3}, {3, 4, 4}, {2, 1, 2}, {2, LEAST, 2}, {1, 0, 1}, {4, 1, 3},
            {GREATEST, 2, 3}, {4, 4, 4}, {GREATEST, GREATEST, 5}, {-1, 0, 1}, {LEAST, LEAST, 1}};
        for (int[] one : cases) {
            Check.same("core " + one[0] + ", most " + one[1], workersAtMost(one[0], one[1]), one[2]);
        }
    }

    /** "room 0 .. 4" */
    private static void roomIsClamped() {
        int[][] cases = {{LEAST, 0}, {-1, 0}, {0, 0}, {1, 1}, {2, 2}, {3, 3}, {4, 4}, {5, 4}, {GREATEST, 4}};
        for (int[] one : cases) {
            Check.same("room " + one[0], queuedAtMost(one[0]), one[1]);
        }
    }

    /** "policy 0 .. 3": 1 and 2 are told apart by what a full QUEUE loses. */
    private static void policyIsClamped() {
        String refused = "6, the first 1";
        String cancelled = "5, the first 1";
        String queued = "1, the first 5";
        String done = "3, the first 1";
        int[] policies = {LEAST, -1, 0, 1, 2, 3, 4, GREATEST};
        String[] due = {refused, refused, refused, cancelled, queued, done, done, done};
        for (int i = 0; i < policies.length; i++) {
            Check.same("policy " + policies[i], statesWhenFull(policies[i]), due[i]);
        }
    }

    private static int workersBeforeQueue(int core) {
        WorkHall hall = new WorkHall(core, 5, 4, 1);
        for (int i = 0; i < 4; i++) {
            hall.submit(Check.value(hall, 5));
        }
        return hall.count(1);
    }

    private static int workersAtMost(int core, int most) {
        WorkHall hall = new WorkHall(core, most, 0, 1);
        for (int i = 0; i < 8; i++) {
            hall.submit(Check.value(hall, 5));
        }
        return hall.count(1);
    }

    private static int queuedAtMost(int room) {
        WorkHall hall = new WorkHall(1, 1, room, 1);
        for (int i = 0; i < 8; i++) {
            hall.submit(Check.value(hall, 5));
        }
        return hall.count(3);
    }

    private static String statesWhenFull(int policy) {
        WorkHall hall = new WorkHall(1, 1, 1, policy);
        hall.submit(Check.value(hall, 5));
        hall.submit(Check.value(hall, 5));
        int job = Check.value(hall, 5);
        Check.answer(() -> hall.submit(job));
        return Check.state(hall, job) + ", the first " + Check.state(hall, 1);
    }
}
