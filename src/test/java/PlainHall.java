import java.util.ArrayList;
import java.util.List;
import java.util.NoSuchElementException;

/** The document once more, as slow and plain as it goes, for RandomRunsTest to compare with. */
final class PlainHall {
    static final class Task {
        int kind;
        int a;
        int b;
        int cost;
        int state;
        int result;
        int thrown;
        int next = -1;
    }

    static final class Hand {
        int task = -1;
        int units;
        double idle;
    }

    static final class Waiting {
        int task;
        double since;
    }

    static final class Alarm {
        int task;
        double time;
        double period;
        int order;
    }

    private final int core;
    private final int most;
    private final int room;
    private final int policy;
    private final List<Task> tasks = new ArrayList<>();
    private final List<Hand> hands = new ArrayList<>();
    private final List<Waiting> queue = new ArrayList<>();
    private final List<Alarm> alarms = new ArrayList<>();
    private final List<Double> delays = new ArrayList<>();
    private int pool;
    private int ended;
    private int peak;
    private int orders;
    private double time;

    PlainHall(int core, int most, int room, int policy) {
        this.core = core < 0 ? 0 : core > 3 ? 3 : core;
        int wanted = most < 1 ? 1 : most > 5 ? 5 : most;
        this.most = wanted < this.core ? this.core : wanted;
        this.room = room < 0 ? 0 : room > 4 ? 4 : room;
        this.policy = policy < 0 ? 0 : policy > 3 ? 3 : policy;
    }

    int job(int kind, int a, int b, int cost) {
        if (kind < 0 || kind > 5 || cost < 1 || cost > 5) {
            throw new IllegalArgumentException();
        }
        if (tasks.size() == 24) {
            throw new IllegalStateException();
        }
        Task task = new Task();
        task.kind = kind;
        task.a = a;
        task.b = b;
        task.cost = cost;
        tasks.add(task);
        return tasks.size() - 1;
    }

    int submit(int job) {
        demand(job);
        if (tasks.get(job).state != 0) {
            throw new IllegalStateException();
        }
        toSubmit(job);
        afterCall();
        if (tasks.get(job).state == 6) {
            throw new UnsupportedOperationException();
        }
        return tasks.get(job).state;
    }

    int then(int job, int next) {
        if (job < 0 || job > 23 || next < 0 || next > 23) {
            throw new IllegalArgumentException();
        }
        demand(job);
        demand(next);
        if (job == next) {
            throw new IllegalArgumentException();
        }
        Task task = tasks.get(job);
        if (task.state != 0 && task.state != 1 && task.state != 2) {
            throw new IllegalStateException();
        }
        int before = task.next;
        task.next = next;
        return before;
    }

    int step(int n) {
        if (n < 1 || n > 10) {
            throw new IllegalArgumentException();
        }
        int before = ended;
        for (int i = 0; i < n; i++) {
            for (Hand hand : new ArrayList<>(hands)) {
                if (hands.contains(hand) && hand.task >= 0) {
                    turn(hand);
                }
            }
        }
        afterCall();
        return ended - before;
    }

    int cancel(int job, boolean hard) {
        demand(job);
        Task task = tasks.get(job);
        int before = task.state;
        if (before == 0 || before == 1) {
            queue.removeIf(waiting -> waiting.task == job);
        } else if (before == 2 && hard) {
            for (Hand hand : hands) {
                if (hand.task == job) {
                    takeOrIdle(hand);
                }
            }
        } else {
            throw new UnsupportedOperationException();
        }
        task.state = 5;
        afterCall();
        return before;
    }

    int get(int job) {
        demand(job);
        Task task = tasks.get(job);
        if (task.state == 3) {
            return task.result;
        }
        if (task.state == 4 && task.thrown == 1) {
            throw new ArithmeticException();
        }
        if (task.state == 4 && task.thrown == 2) {
            throw new IndexOutOfBoundsException();
        }
        if (task.state == 4 && (task.thrown == 3 || task.thrown == 5)) {
            throw new IllegalStateException();
        }
        if (task.state == 4 && task.thrown == 4) {
            throw new UnsupportedOperationException();
        }
        throw new NoSuchElementException();
    }

    int clock(int job, double delay, double period) {
        if (job < 0 || job > 23 || outside(delay, 1000.0) || outside(period, 1000.0)) {
            throw new IllegalArgumentException();
        }
        demand(job);
        if (pool != 0 || alarms.size() == 10) {
            throw new IllegalStateException();
        }
        putAlarm(job, time + delay, period);
        return alarms.size();
    }

    int tick(double by) {
        if (outside(by, 100.0)) {
            throw new IllegalArgumentException();
        }
        double goal = time + by;
        int fired = 0;
        while (fired < 20 && first() != null && !(first().time > goal)) {
            Alarm alarm = first();
            time = Math.max(time, alarm.time);
            fires(alarm);
            fired++;
        }
        time = goal;
        for (Hand hand : new ArrayList<>(hands)) {
            if (hand.task < 0 && time - hand.idle >= 20.0 && hands.size() > core) {
                hands.remove(hand);
            }
        }
        afterCall();
        return fired;
    }

    int shut(boolean now) {
        if (pool != 0) {
            throw new IllegalStateException();
        }
        pool = 1;
        int cancelled = 0;
        if (now) {
            for (Task task : tasks) {
                if (task.state == 1 || task.state == 2) {
                    task.state = 5;
                    cancelled++;
                }
            }
            queue.clear();
            for (Hand hand : hands) {
                hand.task = -1;
            }
        }
        afterCall();
        return cancelled;
    }

    int about(int job, int what) {
        if (what < 0 || what > 4) {
            throw new IllegalArgumentException();
        }
        demand(job);
        Task task = tasks.get(job);
        if (what == 3) {
            for (int i = 0; i < queue.size(); i++) {
                if (queue.get(i).task == job) {
                    return i;
                }
            }
            for (int i = 0; i < hands.size(); i++) {
                if (hands.get(i).task == job) {
                    return i;
                }
            }
            return -1;
        }
        int thrown = task.state == 4 ? task.thrown : 0;
        return new int[] {task.state, task.kind, task.next, 0, thrown}[what];
    }

    int worker(int i) {
        if (i < 0 || i >= hands.size()) {
            throw new NoSuchElementException();
        }
        return hands.get(i).task < 0 ? 0 : hands.get(i).units;
    }

    int count(int what) {
        if (what < 0 || what > 7) {
            throw new IllegalArgumentException();
        }
        int busy = 0;
        for (Hand hand : hands) {
            busy += hand.task >= 0 ? 1 : 0;
        }
        return new int[] {tasks.size(), hands.size(), busy, queue.size(), alarms.size(), pool, ended, peak}[what];
    }

    double delay() {
        if (delays.isEmpty()) {
            throw new ArithmeticException();
        }
        double sum = 0.0;
        for (double delay : delays) {
            sum += delay;
        }
        return sum / delays.size();
    }

    double due() {
        if (first() == null) {
            throw new NoSuchElementException();
        }
        return first().time;
    }

    private static boolean outside(double number, double high) {
        return Double.isNaN(number) || number < 0.0 || number > high;
    }

    private void demand(int job) {
        if (job < 0 || job > 23) {
            throw new IllegalArgumentException();
        }
        if (job >= tasks.size()) {
            throw new NoSuchElementException();
        }
    }

    private boolean is(int job, int state) {
        return job >= 0 && job < tasks.size() && tasks.get(job).state == state;
    }

    private void toSubmit(int job) {
        Task task = tasks.get(job);
        if (pool != 0) {
            task.state = 6;
            return;
        }
        if (hands.size() < core) {
            busyWith(newHand(), job);
            return;
        }
        for (Hand hand : hands) {
            if (hand.task < 0) {
                busyWith(hand, job);
                return;
            }
        }
        if (queue.size() < room) {
            enqueue(job);
        } else if (hands.size() < most) {
            busyWith(newHand(), job);
        } else if (policy == 0) {
            task.state = 6;
        } else if (policy == 1 || policy == 2 && queue.isEmpty()) {
            task.state = 5;
        } else if (policy == 2) {
            tasks.get(queue.remove(0).task).state = 5;
            enqueue(job);
        } else {
            task.state = 2;
            performAndEnd(job);
        }
    }

    private Hand newHand() {
        Hand hand = new Hand();
        hands.add(hand);
        peak = Math.max(peak, hands.size());
        return hand;
    }

    private void busyWith(Hand hand, int job) {
        hand.task = job;
        hand.units = tasks.get(job).cost;
        tasks.get(job).state = 2;
    }

    private void enqueue(int job) {
        Waiting waiting = new Waiting();
        waiting.task = job;
        waiting.since = time;
        queue.add(waiting);
        tasks.get(job).state = 1;
    }

    private void performAndEnd(int job) {
        Task task = tasks.get(job);
        task.thrown = 0;
        if (task.kind == 0) {
            task.result = task.a;
        } else if (task.kind == 1 && task.b == 0) {
            task.thrown = 1;
        } else if (task.kind == 1) {
            task.result = (int) ((long) task.a / task.b);
        } else if (task.kind == 2 && (task.a < 0 || task.a > 4)) {
            task.thrown = 2;
        } else if (task.kind == 2) {
            task.result = List.of(2, 3, 5, 7, task.b).get(task.a);
        } else if (task.kind == 3 && !(is(task.a, 3) && is(task.b, 3))) {
            task.thrown = 3;
        } else if (task.kind == 3) {
            task.result = tasks.get(task.a).result + tasks.get(task.b).result;
        } else if (task.kind == 4 && is(task.a, 0)) {
            toSubmit(task.a);
            task.result = tasks.get(task.a).state;
            task.thrown = task.result == 6 ? 4 : 0;
        } else {
            task.thrown = task.kind;
        }
        task.state = task.thrown == 0 ? 3 : 4;
        ended++;
        if (task.state == 3 && is(task.next, 0)) {
            toSubmit(task.next);
        }
    }

    private void turn(Hand hand) {
        hand.units--;
        if (hand.units > 0) {
            return;
        }
        int job = hand.task;
        performAndEnd(job);
        if (tasks.get(job).thrown == 5) {
            hands.remove(hand);
            if (!queue.isEmpty()) {
                takeOrIdle(newHand());
            }
        } else {
            takeOrIdle(hand);
        }
    }

    private void takeOrIdle(Hand hand) {
        hand.task = -1;
        hand.idle = time;
        if (!queue.isEmpty()) {
            Waiting waiting = queue.remove(0);
            delays.add(time - waiting.since);
            busyWith(hand, waiting.task);
        }
    }

    private Alarm first() {
        Alarm first = null;
        for (Alarm alarm : alarms) {
            if (first == null || alarm.time < first.time
                    || alarm.time == first.time && alarm.order < first.order) {
                first = alarm;
            }
        }
        return first;
    }

    private void putAlarm(int job, double at, double period) {
        Alarm alarm = new Alarm();
        alarm.task = job;
        alarm.time = at;
        alarm.period = period;
        alarm.order = orders++;
        alarms.add(0, alarm);
    }

    private void fires(Alarm alarm) {
        alarms.remove(alarm);
        Task task = tasks.get(alarm.task);
        if (task.state == 3 || task.state == 4) {
            task.state = 0;
        }
        if (task.state == 0) {
            toSubmit(alarm.task);
        }
        if (alarm.period > 0.0 && pool == 0) {
            putAlarm(alarm.task, alarm.time + alarm.period, alarm.period);
        }
    }

    private void afterCall() {
        boolean busy = false;
        for (Hand hand : hands) {
            busy |= hand.task >= 0;
        }
        if (pool == 1 && queue.isEmpty() && !busy) {
            pool = 2;
            hands.clear();
            alarms.clear();
        }
    }
}
