/** Promise 1: the constructor clamps, and a new pool is OPEN and without WORKERS. */
public final class Promise01NewObjectTest {
    public static void main(String[] args) {
        aNewPoolIsOpenAndEmpty();
        coreIsClamped();
        mostIsClamped();
        mostIsNotBelowCore();
        roomIsClamped();
        policyIsClamped();
        Check.end();
    }

    private static void aNewPoolIsOpenAndEmpty() {
        WorkHall hall = new WorkHall(3, 5, 4, 3);
        for (int what = 0; what <= 7; what++) {
            Check.same("count(" + what + ") of a new pool", hall.count(what), 0);
        }
        Check.refused("worker(0) of a new pool", Check.NO_ELEMENT, () -> hall.worker(0));
    }

    private static void coreIsClamped() {
        Check.same("core -5", workersBeforeQueue(-5), 0);
        Check.same("core 0", workersBeforeQueue(0), 0);
        Check.same("core 2", workersBeforeQueue(2), 2);
        Check.same("core 3", workersBeforeQueue(3), 3);
        Check.same("core 4", workersBeforeQueue(4), 3);
        Check.same("core least", workersBeforeQueue(Integer.MIN_VALUE), 0);
        Check.same("core greatest", workersBeforeQueue(Integer.MAX_VALUE), 3);
    }

    private static void mostIsClamped() {
        Check.same("most 0", workersAtMost(0, 0), 1);
        Check.same("most least", workersAtMost(0, Integer.MIN_VALUE), 1);
        Check.same("most 1", workersAtMost(0, 1), 1);
        Check.same("most 4", workersAtMost(0, 4), 4);
        Check.same("most 5", workersAtMost(0, 5), 5);
        Check.same("most 6", workersAtMost(0, 6), 5);
        Check.same("most greatest", workersAtMost(3, Integer.MAX_VALUE), 5);
    }

    private static void mostIsNotBelowCore() {
        Check.same("core 3, most 1", workersAtMost(3, 1), 3);
        Check.same("core 2, most -9", workersAtMost(2, -9), 2);
        Check.same("core 99, most 2", workersAtMost(99, 2), 3);
    }

    private static void roomIsClamped() {
        Check.same("room -1", queuedAtMost(-1), 0);
        Check.same("room 0", queuedAtMost(0), 0);
        Check.same("room 3", queuedAtMost(3), 3);
        Check.same("room 4", queuedAtMost(4), 4);
        Check.same("room 5", queuedAtMost(5), 4);
    }

    private static void policyIsClamped() {
        Check.same("policy -1", stateWhenFull(-1), 6);
        Check.same("policy 0", stateWhenFull(0), 6);
        Check.same("policy 1", stateWhenFull(1), 5);
        Check.same("policy 2", stateWhenFull(2), 5);
        Check.same("policy 3", stateWhenFull(3), 3);
        Check.same("policy 4", stateWhenFull(4), 3);
    }

    private static int workersBeforeQueue(int core) {
        WorkHall hall = new WorkHall(core, 5, 4, 1);
        for (int i = 0; i < 4; i++) {
            hall.submit(Check.value(hall, 5));
        }
        return hall.count(1);
    }

    private static int workersAtMost(int core, int most) {
        WorkHall hall = new WorkHall(core, most, 0, 1);
        for (int i = 0; i < 8; i++) {
            hall.submit(Check.value(hall, 5));
        }
        return hall.count(1);
    }

    private static int queuedAtMost(int room) {
        WorkHall hall = new WorkHall(1, 1, room, 1);
        for (int i = 0; i < 8; i++) {
            hall.submit(Check.value(hall, 5));
        }
        return hall.count(3);
    }

    private static int stateWhenFull(int policy) {
        WorkHall hall = Check.full(policy);
        int job = Check.value(hall, 1);
        Check.answer(() -> hall.submit(job));
        return Check.state(hall, job);
    }
}
