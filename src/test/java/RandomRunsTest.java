import java.util.Random;

/** Runs of calls with seeded numbers, each answer compared with that of PlainHall, and all that is seen at the end. */
public final class RandomRunsTest {
    private static final int RUNS = 2000;
    /** Looks makes up to 162 calls, and the document promises 512 in all. */
    private static final int CALLS = 512 - 162;

    private final Random random;
    private final WorkHall hall;
    private final PlainHall plain;
    private final String name;

    private RandomRunsTest(int run) {
        random = new Random(run);
        name = "run " + run + ", ";
        int core = random.nextInt(6) - 1;
        int most = random.nextInt(8) - 1;
        int room = random.nextInt(7) - 1;
        int policy = random.nextInt(6) - 1;
        hall = new WorkHall(core, most, room, policy);
        plain = new PlainHall(core, most, room, policy);
    }

    public static void main(String[] args) {
        for (int run = 0; run < RUNS; run++) {
            new RandomRunsTest(run).go();
        }
        Check.end();
    }

    private void go() {
        int jobsAtFirst = random.nextInt(25);
        for (int call = 0; call < CALLS; call++) {
            if (call < jobsAtFirst) {
                makeJob(call);
            } else if (flip(2)) {
                ask(call);
            } else {
                makeCall(call);
            }
        }
        Check.same(name + "what is seen at the end", Looks.of(hall), Looks.of(plain));
    }

    private void makeJob(int call) {
        int kind = random.nextInt(12) == 0 ? random.nextInt(8) - 1 : random.nextInt(6);
        int a = random.nextInt(8) == 0 ? random.nextInt() : random.nextInt(kind == 2 ? 7 : 26) - 1;
        int b = random.nextInt(8) == 0 ? random.nextInt() : random.nextInt(26) - 1;
        int cost = random.nextInt(12) == 0 ? random.nextInt(8) - 1 : 1 + random.nextInt(5);
        compare(call, "job", () -> hall.job(kind, a, b, cost), () -> plain.job(kind, a, b, cost));
    }

    private void makeCall(int call) {
        int job = random.nextInt(26) - 1;
        int other = random.nextInt(26) - 1;
        boolean flag = random.nextBoolean();
        switch (random.nextInt(40)) {
            case 0 -> makeJob(call);
            case 1, 2, 3 -> compare(call, "then", () -> hall.then(job, other), () -> plain.then(job, other));
            case 4, 5, 6, 7, 8 -> makeStep(call);
            case 9, 10 -> compare(call, "cancel", () -> hall.cancel(job, flag), () -> plain.cancel(job, flag));
            case 11, 12, 13, 14 -> makeEntry(call, job);
            case 15, 16, 17, 18 -> makeTick(call);
            case 19 -> makeShut(call, flag);
            default -> compare(call, "submit", () -> hall.submit(job), () -> plain.submit(job));
        }
    }

    private void ask(int call) {
        int job = random.nextInt(26) - 1;
        int what = random.nextInt(10) - 1;
        switch (random.nextInt(8)) {
            case 0 -> compare(call, "get", () -> hall.get(job), () -> plain.get(job));
            case 1, 2 -> compare(call, "about", () -> hall.about(job, what), () -> plain.about(job, what));
            case 3 -> compare(call, "worker", () -> hall.worker(what), () -> plain.worker(what));
            case 4 -> compare(call, "delay", hall::delay, plain::delay);
            case 5 -> compare(call, "due", hall::due, plain::due);
            default -> compare(call, "count", () -> hall.count(what), () -> plain.count(what));
        }
    }

    private void makeStep(int call) {
        int n = random.nextInt(3) == 0 ? random.nextInt(13) - 1 : 1 + random.nextInt(2);
        compare(call, "step", () -> hall.step(n), () -> plain.step(n));
    }

    private void makeEntry(int call, int job) {
        double delay = span(random.nextInt(30) == 0 ? 2000 : 20);
        double period = flip(2) ? 0.0 : span(random.nextInt(30) == 0 ? 2000 : 20);
        compare(call, "clock", () -> hall.clock(job, delay, period), () -> plain.clock(job, delay, period));
    }

    private void makeTick(int call) {
        double by = span(random.nextInt(8) == 0 ? 120 : 8);
        compare(call, "tick", () -> hall.tick(by), () -> plain.tick(by));
    }

    /** Rare, so that most of a run meets an OPEN pool. */
    private void makeShut(int call, boolean now) {
        if (flip(10)) {
            compare(call, "shut", () -> hall.shut(now), () -> plain.shut(now));
        }
    }

    private boolean flip(int one) {
        return random.nextInt(one) == 0;
    }

    private double span(int high) {
        if (flip(40)) {
            return new double[] {Double.NaN, -0.0, -1.0, Double.POSITIVE_INFINITY}[random.nextInt(4)];
        }
        return flip(3) ? random.nextDouble() * high : random.nextInt(2 * high + 1) / 2.0;
    }

    private void compare(int call, String method, Check.Call real, Check.Call due) {
        Check.same(name + "call " + call + ", " + method, Check.answer(real), Check.answer(due));
    }
}
