/** Promise 12: worker answers the units that are left. */
public final class Promise12WorkerTest {
    public static void main(String[] args) {
        noWorkerIsThere();
        eachPlaceUpToTheLast();
        unitsGoDownToZero();
        whoIsThereNoMore();
        Check.end();
    }

    /** "there is none: NoSuchElementException": no place is out of range. */
    private static void noWorkerIsThere() {
        WorkHall hall = new WorkHall(2, 3, 0, 0);
        for (int place : new int[] {Integer.MIN_VALUE, -1, 0, 1, 5, 24, Integer.MAX_VALUE}) {
            Check.refused("worker(" + place + ") of none", Check.NO_ELEMENT, () -> hall.worker(place));
        }
    }

    /** "Of the WORKER at place i: units left" */
    private static void eachPlaceUpToTheLast() {
        WorkHall hall = new WorkHall(0, 5, 0, 0);
        for (int workers = 1; workers <= 5; workers++) {
            hall.submit(Check.value(hall, workers));
            for (int place = 0; place < workers; place++) {
                Check.same("worker(" + place + ") of " + workers, hall.worker(place), place + 1);
            }
            int behind = workers;
            Check.refused("worker(" + workers + ") of " + workers, Check.NO_ELEMENT, () -> hall.worker(behind));
            Check.refused("worker(-1) of " + workers, Check.NO_ELEMENT, () -> hall.worker(-1));
        }
        Check.refused("worker(MIN)", Check.NO_ELEMENT, () -> hall.worker(Integer.MIN_VALUE));
        Check.refused("worker(MAX)", Check.NO_ELEMENT, () -> hall.worker(Integer.MAX_VALUE));
    }

    /** "0 if it is IDLE" */
    private static void unitsGoDownToZero() {
        WorkHall hall = new WorkHall(2, 2, 0, 0);
        hall.submit(Check.value(hall, 5));
        hall.submit(Check.value(hall, 1));
        hall.step(1);
        Check.same("worker(0) after a step", hall.worker(0), 4);
        Check.same("worker(1) is IDLE", hall.worker(1), 0);
        hall.step(3);
        Check.same("worker(0) before its last", hall.worker(0), 1);
        hall.cancel(0, true);
        Check.same("worker(0) after cancel", hall.worker(0), 0);
    }

    private static void whoIsThereNoMore() {
        WorkHall crashed = new WorkHall(1, 1, 0, 0);
        crashed.submit(Check.crash(crashed, 1));
        crashed.step(1);
        Check.refused("one that threw 5", Check.NO_ELEMENT, () -> crashed.worker(0));
        WorkHall idle = new WorkHall(0, 1, 0, 0);
        idle.submit(Check.value(idle, 1));
        idle.step(1);
        Check.same("one that is IDLE", idle.worker(0), 0);
        idle.tick(20.0);
        Check.refused("one that was IDLE for long", Check.NO_ELEMENT, () -> idle.worker(0));
        WorkHall ended = Check.full(0);
        ended.shut(true);
        Check.refused("one of an ENDED pool", Check.NO_ELEMENT, () -> ended.worker(0));
    }
}
