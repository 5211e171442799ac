import java.util.Random;

/**
 * Runs of 512 calls with seeded numbers, each answer compared with that of PlainHall; and what throws must
 * change nothing, but that submit may leave its JOB REFUSED.
 */
public final class RandomRunsTest {
    private static final int RUNS = 300;
    private static final int CALLS = 512;

    private final Random random;
    private final WorkHall hall;
    private final PlainHall plain;
    private final String name;

    private RandomRunsTest(int run) {
        random = new Random(run);
        name = "run " + run + ", ";
        int core = random.nextInt(6) - 1;
        int most = random.nextInt(8) - 1;
        int room = random.nextInt(7) - 1;
        int policy = random.nextInt(6) - 1;
        hall = new WorkHall(core, most, room, policy);
        plain = new PlainHall(core, most, room, policy);
    }

    public static void main(String[] args) {
        for (int run = 0; run < RUNS; run++) {
            new RandomRunsTest(run).go();
        }
        Check.end();
    }

    private void go() {
        int jobsAtFirst = random.nextInt(25);
        for (int call = 0; call < CALLS; call++) {
            if (call < jobsAtFirst) {
                makeJob(call);
            } else {
                makeCall(call);
            }
        }
    }

    private void makeJob(int call) {
        int kind = random.nextInt(12) == 0 ? random.nextInt(8) - 1 : random.nextInt(6);
        int a = random.nextInt(8) == 0 ? random.nextInt() : random.nextInt(kind == 2 ? 7 : 26) - 1;
        int b = random.nextInt(8) == 0 ? random.nextInt() : random.nextInt(26) - 1;
        int cost = random.nextInt(12) == 0 ? random.nextInt(8) - 1 : 1 + random.nextInt(5);
        compare(call, "job", () -> hall.job(kind, a, b, cost), () -> plain.job(kind, a, b, cost));
    }

    private void makeCall(int call) {
        int job = random.nextInt(26) - 1;
        int other = random.nextInt(26) - 1;
        boolean flag = random.nextBoolean();
        switch (random.nextInt(40)) {
            case 0 -> makeJob(call);
            case 1, 2, 3 -> compare(call, "then", () -> hall.then(job, other), () -> plain.then(job, other));
            case 4, 5, 6, 7, 8 -> makeStep(call);
            case 9, 10 -> compare(call, "cancel", () -> hall.cancel(job, flag), () -> plain.cancel(job, flag));
            case 11, 12, 13, 14 -> makeEntry(call, job);
            case 15, 16, 17, 18 -> makeTick(call);
            case 19 -> makeShut(call, flag);
            case 20, 21 -> compare(call, "get", () -> hall.get(job), () -> plain.get(job));
            case 22 -> compare(call, "about", () -> hall.about(job, 5), () -> plain.about(job, 5));
            default -> compare(call, "submit", () -> hall.submit(job), () -> plain.submit(job));
        }
    }

    private void makeStep(int call) {
        int n = random.nextInt(3) == 0 ? random.nextInt(13) - 1 : 1 + random.nextInt(2);
        compare(call, "step", () -> hall.step(n), () -> plain.step(n));
    }

    private void makeEntry(int call, int job) {
        double delay = span(random.nextInt(30) == 0 ? 2000 : 20);
        double period = flip(2) ? 0.0 : span(random.nextInt(30) == 0 ? 2000 : 20);
        compare(call, "clock", () -> hall.clock(job, delay, period), () -> plain.clock(job, delay, period));
    }

    private void makeTick(int call) {
        double by = span(random.nextInt(8) == 0 ? 120 : 8);
        compare(call, "tick", () -> hall.tick(by), () -> plain.tick(by));
    }

    /** Rare, so that most of a run meets an OPEN pool. */
    private void makeShut(int call, boolean now) {
        if (flip(10)) {
            compare(call, "shut", () -> hall.shut(now), () -> plain.shut(now));
        }
    }

    private boolean flip(int one) {
        return random.nextInt(one) == 0;
    }

    private double span(int high) {
        if (flip(40)) {
            return new double[] {Double.NaN, -0.0, -1.0, Double.POSITIVE_INFINITY}[random.nextInt(4)];
        }
        return flip(3) ? random.nextDouble() * high : random.nextInt(2 * high + 1) / 2.0;
    }

    private void compare(int call, String method, Check.Call real, Check.Call due) {
        String where = name + "call " + call + ", " + method;
        String before = realLooks();
        Object answer = Check.answer(real);
        Check.same(where, answer, Check.answer(due));
        String after = realLooks();
        Check.same(where + ", what is seen then", after, plainLooks());
        boolean refused = method.equals("submit") && answer.equals("UnsupportedOperationException");
        if (answer instanceof String && !refused) {
            Check.same(where + ", nothing changed", after, before);
        }
    }

    private interface OneNumber {
        Object ask(int number);
    }

    private interface TwoNumbers {
        Object ask(int first, int second);
    }

    private String realLooks() {
        return looks(hall::count, hall::worker, hall::about, hall::get, hall::delay, hall::due);
    }

    private String plainLooks() {
        return looks(plain::count, plain::worker, plain::about, plain::get, plain::delay, plain::due);
    }

    private static String looks(OneNumber count, OneNumber worker, TwoNumbers about, OneNumber get,
            Check.Call delay, Check.Call due) {
        StringBuilder seen = new StringBuilder();
        for (int what = 0; what <= 7; what++) {
            seen.append(count.ask(what)).append(' ');
        }
        int workers = (Integer) count.ask(1);
        for (int i = 0; i <= workers; i++) {
            int place = i;
            seen.append(Check.answer(() -> worker.ask(place))).append(' ');
        }
        int made = (Integer) count.ask(0);
        for (int i = 0; i < made; i++) {
            int job = i;
            seen.append(job).append(": ");
            for (int what = 0; what <= 4; what++) {
                seen.append(about.ask(job, what)).append(' ');
            }
            seen.append(Check.answer(() -> get.ask(job))).append(' ');
        }
        return seen.append(Check.answer(delay)).append(' ').append(Check.answer(due)).toString();
    }
}
