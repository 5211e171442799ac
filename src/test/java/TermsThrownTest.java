import java.util.ArrayList;
import java.util.List;

/** Terms: "What is thrown, in this order", and "A call that throws changes nothing, but as said." */
public final class TermsThrownTest {
    private static final int[] OUT = {Integer.MIN_VALUE, -1, 24, Integer.MAX_VALUE};
    private static final double[] BEYOND = {Double.NEGATIVE_INFINITY, -1.0, -Double.MIN_VALUE,
        Math.nextUp(1000.0), Double.MAX_VALUE, Double.POSITIVE_INFINITY, Double.NaN};

    private interface Asked {
        Object of(WorkHall hall);
    }

    private static final class Refusal {
        final String name;
        final Class<? extends RuntimeException> due;
        final Asked call;

        Refusal(String name, Class<? extends RuntimeException> due, Asked call) {
            this.name = name;
            this.due = due;
            this.call = call;
        }
    }

    private final List<Refusal> refusals = new ArrayList<>();

    public static void main(String[] args) {
        jobNumbers();
        rangeComesBeforeThere();
        thereComesBeforeWhatTheCallSays();
        rangeComesBeforeWhatTheCallSays();
        whatThrowsChangesNothing(false);
        whatThrowsChangesNothing(true);
        aRefusedSubmitChangesItsJobAlone();
        Check.end();
    }

    /** "a number out of range (a JOB's is 0 .. 23)": 0 and 23 are in it, whether there or not. */
    private static void jobNumbers() {
        WorkHall none = new WorkHall(1, 1, 1, 0);
        WorkHall all = new WorkHall(1, 1, 1, 0);
        for (int i = 0; i < 24; i++) {
            Check.value(all, 1);
        }
        for (int job : OUT) {
            everyCallWithAJob(none, job, "IllegalArgumentException");
            everyCallWithAJob(all, job, "IllegalArgumentException");
        }
        for (int job : new int[] {0, 1, 22, 23}) {
            everyCallWithAJob(none, job, "NoSuchElementException");
        }
        Check.same("about(23, 0)", all.about(23, 0), 0);
        Check.same("then(0, 23)", all.then(0, 23), -1);
        Check.same("then(23, 0)", all.then(23, 0), -1);
        Check.same("clock(23)", all.clock(23, 5.0, 0.0), 1);
        Check.same("submit(23)", all.submit(23), 2);
        Check.refused("get(23)", Check.NO_ELEMENT, () -> all.get(23));
        Check.same("cancel(23)", all.cancel(23, true), 2);
        Check.same("submit(0)", all.submit(0), 2);
        Check.same("step", all.step(1), 1);
        Check.same("get(0)", all.get(0), 7);
    }

    private static void everyCallWithAJob(WorkHall hall, int job, String due) {
        String of = " of " + job + ", " + hall.count(0) + " made";
        Check.same("submit" + of, Check.answer(() -> hall.submit(job)), due);
        Check.same("then, first" + of, Check.answer(() -> hall.then(job, 0)), due);
        Check.same("then, next" + of, Check.answer(() -> hall.then(0, job)), due);
        Check.same("cancel" + of, Check.answer(() -> hall.cancel(job, true)), due);
        Check.same("get" + of, Check.answer(() -> hall.get(job)), due);
        Check.same("clock" + of, Check.answer(() -> hall.clock(job, 0.0, 0.0)), due);
        Check.same("about" + of, Check.answer(() -> hall.about(job, 0)), due);
    }

    /** One number is out of range, and a JOB is not there: IllegalArgumentException. */
    private static void rangeComesBeforeThere() {
        WorkHall hall = new WorkHall(1, 1, 1, 0);
        Check.value(hall, 1);
        for (int out : OUT) {
            Check.refused("then(1, " + out + ")", Check.ARGUMENT, () -> hall.then(1, out));
            Check.refused("then(" + out + ", 1)", Check.ARGUMENT, () -> hall.then(out, 1));
        }
        for (double out : BEYOND) {
            Check.refused("clock(1, " + out + ", 0.0)", Check.ARGUMENT, () -> hall.clock(1, out, 0.0));
            Check.refused("clock(1, 0.0, " + out + ")", Check.ARGUMENT, () -> hall.clock(1, 0.0, out));
        }
        Check.refused("about(1, -1)", Check.ARGUMENT, () -> hall.about(1, -1));
        Check.refused("about(1, 5)", Check.ARGUMENT, () -> hall.about(1, 5));
    }

    /** A JOB is not there, and the call has a reason of its own too: NoSuchElementException. */
    private static void thereComesBeforeWhatTheCallSays() {
        WorkHall hall = Check.withJobsThatAreOver();
        Check.refused("then of a DONE JOB and none", Check.NO_ELEMENT, () -> hall.then(1, 5));
        Check.refused("then of none and none", Check.NO_ELEMENT, () -> hall.then(5, 5));
        Check.refused("clock of none, not OPEN", Check.NO_ELEMENT, () -> hall.clock(5, 0.0, 0.0));
        WorkHall full = Check.full(0);
        for (int i = 0; i < 10; i++) {
            full.clock(0, 1.0, 0.0);
        }
        Check.refused("clock of none, 10 ENTRIES", Check.NO_ELEMENT, () -> full.clock(5, 0.0, 0.0));
    }

    private static void rangeComesBeforeWhatTheCallSays() {
        WorkHall hall = Check.withJobsThatAreOver();
        Check.refused("then of a DONE JOB and 24", Check.ARGUMENT, () -> hall.then(1, 24));
        Check.refused("then of 24 and 24", Check.ARGUMENT, () -> hall.then(24, 24));
        Check.refused("then of a DONE JOB and itself", Check.ARGUMENT, () -> hall.then(1, 1));
        for (double out : BEYOND) {
            Check.refused("clock, delay " + out + ", not OPEN", Check.ARGUMENT, () -> hall.clock(0, out, 0.0));
            Check.refused("clock, period " + out + ", not OPEN", Check.ARGUMENT, () -> hall.clock(0, 0.0, out));
        }
        WorkHall many = new WorkHall(1, 1, 1, 0);
        for (int i = 0; i < 24; i++) {
            Check.value(many, 1);
        }
        for (int i = 0; i < 10; i++) {
            many.clock(0, 1.0, 0.0);
        }
        Check.refused("job, kind -1, 24 there", Check.ARGUMENT, () -> many.job(-1, 0, 0, 1));
        Check.refused("job, kind 6, 24 there", Check.ARGUMENT, () -> many.job(6, 0, 0, 1));
        Check.refused("job, cost 0, 24 there", Check.ARGUMENT, () -> many.job(0, 0, 0, 0));
        Check.refused("job, cost 6, 24 there", Check.ARGUMENT, () -> many.job(0, 0, 0, 6));
        Check.refused("clock, delay, 10 ENTRIES", Check.ARGUMENT, () -> many.clock(0, Math.nextUp(1000.0), 0.0));
        Check.refused("clock, period, 10 ENTRIES", Check.ARGUMENT, () -> many.clock(0, 0.0, Math.nextUp(1000.0)));
    }

    /** For each refusal a hall of its own: it shows the same as its twin that was asked nothing, then and later. */
    private static void whatThrowsChangesNothing(boolean closing) {
        TermsThrownTest test = new TermsThrownTest();
        test.collect(closing);
        WorkHall twin = busyHall(closing);
        String atFirst = Looks.of(twin);
        String later = lookLater(twin);
        for (Refusal refusal : test.refusals) {
            WorkHall hall = busyHall(closing);
            Check.refused(refusal.name, refusal.due, () -> refusal.call.of(hall));
            Check.same(refusal.name + ", then", Looks.of(hall), atFirst);
            Check.same(refusal.name + ", later", lookLater(hall), later);
        }
    }

    private static String lookLater(WorkHall hall) {
        StringBuilder answers = new StringBuilder();
        for (int i = 0; i < 12; i++) {
            answers.append(hall.step(1)).append(' ').append(hall.tick(2.5)).append(' ');
        }
        return answers.append(Looks.of(hall)).toString();
    }

    /** JOBS in every STATE, 24 of them, and 10 ENTRIES. */
    private static WorkHall busyHall(boolean closing) {
        WorkHall hall = Check.withEveryState(0, 7, 0);
        for (int job = 8; job < 24; job++) {
            Check.value(hall, 1);
        }
        hall.then(2, 8);
        for (int i = 0; i < 10; i++) {
            hall.clock(i % 5, 3.0 + i, i);
        }
        hall.tick(1.0);
        if (closing) {
            hall.shut(false);
        }
        return hall;
    }

    private void collect(boolean closing) {
        for (int out : OUT) {
            collectJobOutOfRange(out);
        }
        for (double out : BEYOND) {
            add("delay " + out, Check.ARGUMENT, hall -> hall.clock(0, out, 0.0));
            add("period " + out, Check.ARGUMENT, hall -> hall.clock(0, 0.0, out));
            add("tick " + out, Check.ARGUMENT, hall -> hall.tick(out));
        }
        add("tick above 100.0", Check.ARGUMENT, hall -> hall.tick(Math.nextUp(100.0)));
        add("kind -1", Check.ARGUMENT, hall -> hall.job(-1, 0, 0, 1));
        add("kind 6", Check.ARGUMENT, hall -> hall.job(6, 0, 0, 1));
        add("cost 0", Check.ARGUMENT, hall -> hall.job(0, 0, 0, 0));
        add("cost 6", Check.ARGUMENT, hall -> hall.job(0, 0, 0, 6));
        add("a 25th JOB", Check.STATE, hall -> hall.job(0, 0, 0, 1));
        add("step 0", Check.ARGUMENT, hall -> hall.step(0));
        add("step 11", Check.ARGUMENT, hall -> hall.step(11));
        add("an 11th ENTRY", Check.STATE, hall -> hall.clock(0, 0.0, 0.0));
        add("worker 2", Check.NO_ELEMENT, hall -> hall.worker(2));
        add("count 8", Check.ARGUMENT, hall -> hall.count(8));
        collectStates();
        if (closing) {
            add("shut", Check.STATE, hall -> hall.shut(false));
            add("shut now", Check.STATE, hall -> hall.shut(true));
        }
    }

    private void collectJobOutOfRange(int out) {
        add("submit " + out, Check.ARGUMENT, hall -> hall.submit(out));
        add("then " + out, Check.ARGUMENT, hall -> hall.then(out, 0));
        add("then 0, " + out, Check.ARGUMENT, hall -> hall.then(0, out));
        add("cancel " + out, Check.ARGUMENT, hall -> hall.cancel(out, true));
        add("get " + out, Check.ARGUMENT, hall -> hall.get(out));
        add("clock " + out, Check.ARGUMENT, hall -> hall.clock(out, 0.0, 0.0));
        add("about " + out, Check.ARGUMENT, hall -> hall.about(out, 0));
        add("about 0, " + out, Check.ARGUMENT, hall -> hall.about(0, out));
    }

    private void collectStates() {
        for (int job = 1; job <= 7; job++) {
            int same = job;
            add("submit JOB " + job, Check.STATE, hall -> hall.submit(same));
            add("then JOB " + job + " itself", Check.ARGUMENT, hall -> hall.then(same, same));
        }
        for (int job = 3; job <= 6; job++) {
            int over = job;
            add("then JOB " + job, Check.STATE, hall -> hall.then(over, 0));
            add("cancel JOB " + job, Check.UNSUPPORTED, hall -> hall.cancel(over, false));
            add("cancel hard JOB " + job, Check.UNSUPPORTED, hall -> hall.cancel(over, true));
        }
        add("cancel RUNNING softly", Check.UNSUPPORTED, hall -> hall.cancel(2, false));
        for (int job : new int[] {0, 1, 2, 5, 6}) {
            add("get JOB " + job, Check.NO_ELEMENT, hall -> hall.get(job));
        }
        add("get FAILED", Check.ARITHMETIC, hall -> hall.get(4));
        add("delay", Check.ARITHMETIC, hall -> hall.delay());
    }

    private void add(String name, Class<? extends RuntimeException> due, Asked call) {
        refusals.add(new Refusal(name, due, call));
    }

    /** "but as said": "REFUSED: UnsupportedOperationException (and it stays so)". */
    private static void aRefusedSubmitChangesItsJobAlone() {
        WorkHall hall = Check.withEveryState(0, 7, 0);
        String before = Looks.of(hall);
        Check.refused("submit", Check.UNSUPPORTED, () -> hall.submit(0));
        Check.same("it stays REFUSED", Check.state(hall, 0), 6);
        Check.same("nothing else", Looks.of(hall), before.replaceFirst("0: 0 0 ", "0: 6 0 "));
        Check.same("that was seen", Looks.of(hall).equals(before), false);
    }
}
