/** Promise 12: worker answers the units that are left. */
public final class Promise12WorkerTest {
    public static void main(String[] args) {
        WorkHall hall = new WorkHall(2, 3, 0, 0);
        for (int place : new int[] {0, -1, 5, Integer.MIN_VALUE, Integer.MAX_VALUE}) {
            Check.refused("worker(" + place + ") of none", Check.NO_ELEMENT, () -> hall.worker(place));
        }
        hall.submit(Check.value(hall, 5));
        hall.submit(Check.value(hall, 1));
        Check.same("worker(0)", hall.worker(0), 5);
        Check.same("worker(1)", hall.worker(1), 1);
        Check.refused("worker(2) of two", Check.NO_ELEMENT, () -> hall.worker(2));
        Check.refused("worker(-1) of two", Check.NO_ELEMENT, () -> hall.worker(-1));
        hall.step(1);
        Check.same("worker(0) after a step", hall.worker(0), 4);
        Check.same("worker(1) is IDLE", hall.worker(1), 0);
        hall.cancel(0, true);
        Check.same("worker(0) after cancel", hall.worker(0), 0);
        hall.shut(false);
        Check.refused("worker(0) of an ENDED pool", Check.NO_ELEMENT, () -> hall.worker(0));
        Check.end();
    }
}
