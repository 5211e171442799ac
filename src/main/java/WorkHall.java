import java.util.NoSuchElementException;

/** A pool of workers for jobs that may throw; README.md says how to use it. */
public final class WorkHall {
    private static final int MOST_JOBS = 24;
    private static final int MOST_WORKERS = 5;
    private static final int MOST_ROOM = 4;
    private static final int MOST_ENTRIES = 10;
    private static final int MOST_FIRINGS = 20;
    private static final int MOST_STEPS = 10;
    private static final int MOST_COST = 5;
    private static final int LONGEST_WAIT = 1000;
    private static final int LONGEST_TICK = 100;
    private static final int LONGEST_IDLING = 20;

    private static final int NEW = 0;
    private static final int QUEUED = 1;
    private static final int RUNNING = 2;
    private static final int DONE = 3;
    private static final int FAILED = 4;
    private static final int CANCELLED = 5;
    private static final int REFUSED = 6;

    private static final int VALUE = 0;
    private static final int DIVIDE = 1;
    private static final int PICK = 2;
    private static final int SUM = 3;
    private static final int FORK = 4;
    private static final int CRASH = 5;

    private static final int BAD_DIVISOR = 1;
    private static final int BAD_PICK = 2;
    private static final int BAD_SUM = 3;
    private static final int BAD_FORK = 4;
    private static final int CRASHED = 5;

    private static final int REFUSE = 0;
    private static final int DROP_THIS = 1;
    private static final int DROP_FIRST = 2;
    private static final int PERFORM_AT_ONCE = 3;

    private static final int OPEN = 0;
    private static final int CLOSING = 1;
    private static final int ENDED = 2;

    private static final int[] PICKS = {2, 3, 5, 7};

    private final int core;
    private final int most;
    private final int room;
    private final int policy;
    private final Job[] jobs = new Job[MOST_JOBS];
    private final Crew crew = new Crew();
    private final Line line = new Line();
    private final Timetable timetable = new Timetable();
    private int made = 0;
    private int phase = OPEN;
    private int finished = 0;
    private double time = 0.0;

    public WorkHall(int core, int most, int room, int policy) {
        this.core = clamp(core, 0, 3);
        this.most = Math.max(clamp(most, 1, MOST_WORKERS), this.core);
        this.room = clamp(room, 0, MOST_ROOM);
        this.policy = clamp(policy, REFUSE, PERFORM_AT_ONCE);
    }

    public int job(int kind, int a, int b, int cost) throws IllegalArgumentException, IllegalStateException {
        checkRange(kind, VALUE, CRASH);
        checkRange(cost, 1, MOST_COST);
        if (made >= MOST_JOBS) {
            throw new IllegalStateException("no more jobs can be made");
        }
        jobs[made] = new Job(made, kind, a, b, cost);
        made++;
        return made - 1;
    }

    public int submit(int job) throws IllegalArgumentException, NoSuchElementException, IllegalStateException,
            UnsupportedOperationException {
        Job asked = known(job);
        if (asked.state != NEW) {
            throw new IllegalStateException("the job is not new");
        }
        admit(asked, 0);
        if (asked.state == REFUSED) {
            throw new UnsupportedOperationException("the job is refused");
        }
        return asked.state;
    }

    public int then(int job, int next) throws IllegalArgumentException, NoSuchElementException,
            IllegalStateException {
        // The range of both numbers comes before the existence of either.
        checkRange(next, 0, MOST_JOBS - 1);
        Job first = known(job);
        Job second = known(next);
        if (first == second) {
            throw new IllegalArgumentException("a job can not follow on itself");
        }
        if (first.state > RUNNING) {
            throw new IllegalStateException("the job is over");
        }
        int before = first.nextNumber();
        first.next = second;
        return before;
    }

    public int step(int n) throws IllegalArgumentException {
        checkRange(n, 1, MOST_STEPS);
        int before = finished;
        for (int i = 0; i < n; i++) {
            runStep();
        }
        endIfSettled();
        return finished - before;
    }

    public int cancel(int job, boolean hard) throws IllegalArgumentException, NoSuchElementException,
            UnsupportedOperationException {
        Job asked = known(job);
        int before = asked.state;
        if (before > RUNNING || before == RUNNING && !hard) {
            throw new UnsupportedOperationException("the job can not be cancelled");
        }
        asked.state = CANCELLED;
        if (before == QUEUED) {
            line.removeAt(line.placeOf(asked));
        }
        if (before == RUNNING) {
            freeWorker(crew.at(crew.placeOf(asked)));
        }
        endIfSettled();
        return before;
    }

    public int get(int job) throws IllegalArgumentException, NoSuchElementException, IllegalStateException,
            UnsupportedOperationException, IndexOutOfBoundsException, ArithmeticException {
        Job asked = known(job);
        if (asked.state == DONE) {
            return asked.result;
        }
        if (asked.state != FAILED) {
            throw new NoSuchElementException("the job has no result");
        }
        switch (asked.thrown) {
            case BAD_DIVISOR:
                throw new ArithmeticException("the job divided by zero");
            case BAD_PICK:
                throw new IndexOutOfBoundsException("the job picked beyond the row");
            case BAD_FORK:
                throw new UnsupportedOperationException("the job could not fork");
            default:
                throw new IllegalStateException("the job failed");
        }
    }

    public int clock(int job, double delay, double period) throws IllegalArgumentException,
            NoSuchElementException, IllegalStateException {
        checkSpan(delay, LONGEST_WAIT);
        checkSpan(period, LONGEST_WAIT);
        Job asked = known(job);
        if (phase != OPEN || timetable.size >= MOST_ENTRIES) {
            throw new IllegalStateException("the clock takes no entry");
        }
        timetable.put(asked, time + delay, period);
        return timetable.size;
    }

    public int tick(double by) throws IllegalArgumentException {
        checkSpan(by, LONGEST_TICK);
        double goal = time + by;
        int fired = 0;
        while (fired < MOST_FIRINGS && timetable.hasEntryUpTo(goal)) {
            fire(timetable.firstPlace());
            fired++;
        }
        time = goal;
        dismissLongIdle();
        return fired;
    }

    public int shut(boolean now) throws IllegalStateException {
        if (phase != OPEN) {
            throw new IllegalStateException("the pool is not open");
        }
        phase = CLOSING;
        int cancelled = now ? line.cancelAll() + crew.cancelAll(time) : 0;
        endIfSettled();
        return cancelled;
    }

    public int about(int job, int what) throws IllegalArgumentException, NoSuchElementException {
        checkRange(what, 0, 4);
        Job asked = known(job);
        switch (what) {
            case 0:
                return asked.state;
            case 1:
                return asked.kind;
            case 2:
                return asked.nextNumber();
            case 3:
                return placeOf(asked);
            default:
                return asked.state == FAILED ? asked.thrown : 0;
        }
    }

    public int worker(int i) throws NoSuchElementException {
        Worker asked = crew.at(i);
        if (asked == null) {
            throw new NoSuchElementException("there is no such worker");
        }
        return asked.left;
    }

    public int count(int what) throws IllegalArgumentException {
        checkRange(what, 0, 7);
        switch (what) {
            case 0:
                return made;
            case 1:
                return crew.size;
            case 2:
                return crew.busy();
            case 3:
                return line.size;
            case 4:
                return timetable.size;
            case 5:
                return phase;
            case 6:
                return finished;
            default:
                return crew.mostSeen;
        }
    }

    public double delay() throws ArithmeticException {
        if (line.taken == 0) {
            throw new ArithmeticException("no job was taken from the queue");
        }
        return line.waited / line.taken;
    }

    public double due() throws NoSuchElementException {
        int first = timetable.firstPlace();
        if (first < 0) {
            throw new NoSuchElementException("the clock is empty");
        }
        return timetable.times[first];
    }

    private static int clamp(int number, int low, int high) {
        return Math.min(Math.max(number, low), high);
    }

    private static void checkRange(int number, int low, int high) {
        if (number < low || number > high) {
            throw new IllegalArgumentException("a number is out of range");
        }
    }

    private static void checkSpan(double number, int high) {
        // Asked in this way round so that NaN is out of range too.
        if (!(number >= 0.0 && number <= high)) {
            throw new IllegalArgumentException("a number is out of range");
        }
    }

    private Job known(int number) {
        checkRange(number, 0, MOST_JOBS - 1);
        Job job = find(number);
        if (job == null) {
            throw new NoSuchElementException("there is no such job");
        }
        return job;
    }

    private Job find(int number) {
        return number >= 0 && number < made ? jobs[number] : null;
    }

    private int placeOf(Job job) {
        if (job.state == QUEUED) {
            return line.placeOf(job);
        }
        return job.state == RUNNING ? crew.placeOf(job) : -1;
    }

    /**
     * The job is NEW. Each level below takes one more job out of that state, so the depth never passes the
     * number of jobs: its guard is not what refuses a job.
     */
    private void admit(Job job, int depth) {
        Worker idle = crew.firstIdle();
        if (phase != OPEN || depth > MOST_JOBS) {
            job.state = REFUSED;
        } else if (crew.size < core) {
            crew.hire(job);
        } else if (idle != null) {
            idle.begin(job);
        } else if (line.size < room) {
            line.add(job, time);
        } else if (crew.size < most) {
            crew.hire(job);
        } else {
            turnAway(job, depth);
        }
    }

    private void turnAway(Job job, int depth) {
        switch (policy) {
            case REFUSE:
                job.state = REFUSED;
                break;
            case DROP_THIS:
                job.state = CANCELLED;
                break;
            case DROP_FIRST:
                Job first = line.removeAt(0);
                if (first == null) {
                    job.state = CANCELLED;
                } else {
                    first.state = CANCELLED;
                    line.add(job, time);
                }
                break;
            default:
                // No longer NEW while it is performed: or else it could fork itself without end.
                job.state = RUNNING;
                performAndEnd(job, depth);
                break;
        }
    }

    private void performAndEnd(Job job, int depth) {
        switch (job.kind) {
            case VALUE:
                job.succeed(job.a);
                break;
            case DIVIDE:
                job.divide();
                break;
            case PICK:
                job.pick();
                break;
            case SUM:
                sum(job);
                break;
            case FORK:
                fork(job, depth);
                break;
            default:
                job.fail(CRASHED);
                break;
        }
        finished++;
        Job next = job.next;
        if (job.state == DONE && next != null && next.state == NEW) {
            admit(next, depth + 1);
        }
    }

    private void sum(Job job) {
        Job left = find(job.a);
        Job right = find(job.b);
        if (left == null || right == null || left.state != DONE || right.state != DONE) {
            job.fail(BAD_SUM);
        } else {
            job.succeed(left.result + right.result);
        }
    }

    private void fork(Job job, int depth) {
        Job target = find(job.a);
        if (target == null || target.state != NEW) {
            job.fail(BAD_FORK);
            return;
        }
        admit(target, depth + 1);
        if (target.state == REFUSED) {
            job.fail(BAD_FORK);
        } else {
            job.succeed(target.state);
        }
    }

    private void runStep() {
        // Who is hired in this step stands behind the others, so counting turns leaves them out.
        int turns = crew.size;
        int place = 0;
        for (int turn = 0; turn < turns; turn++) {
            if (staysAfterTurn(place)) {
                place++;
            }
        }
    }

    private boolean staysAfterTurn(int place) {
        Worker worker = crew.at(place);
        if (worker == null || worker.job == null) {
            return true;
        }
        worker.left--;
        if (worker.left > 0) {
            return true;
        }
        Job job = worker.job;
        performAndEnd(job, 0);
        if (job.state == FAILED && job.thrown == CRASHED) {
            replaceWorker(place);
            return false;
        }
        freeWorker(worker);
        return true;
    }

    private void replaceWorker(int place) {
        crew.dismiss(place);
        Job waiting = line.takeFirst(time);
        if (waiting != null) {
            crew.hire(waiting);
        }
    }

    private void freeWorker(Worker worker) {
        if (worker == null) {
            return;
        }
        Job waiting = line.takeFirst(time);
        if (waiting != null) {
            worker.begin(waiting);
        } else {
            worker.rest(time);
        }
    }

    private void fire(int place) {
        if (place < 0 || place >= timetable.size) {
            return;
        }
        Job job = timetable.jobs[place];
        double at = timetable.times[place];
        double period = timetable.periods[place];
        timetable.removeAt(place);
        if (at > time) {
            time = at;
        }
        if (job.state == DONE || job.state == FAILED) {
            job.state = NEW;
        }
        if (job.state == NEW) {
            admit(job, 0);
        }
        if (period > 0.0 && phase == OPEN) {
            timetable.put(job, at + period, period);
        }
    }

    private void dismissLongIdle() {
        int turns = crew.size;
        int place = 0;
        for (int turn = 0; turn < turns && crew.size > core; turn++) {
            Worker worker = crew.at(place);
            if (worker != null && worker.job == null && time - worker.idleSince >= LONGEST_IDLING) {
                crew.dismiss(place);
            } else {
                place++;
            }
        }
    }

    /** Only step, cancel and shut can bring this about: a closing pool gets no new work from other calls. */
    private void endIfSettled() {
        if (phase == CLOSING && line.size == 0 && crew.busy() == 0) {
            phase = ENDED;
            crew.size = 0;
            timetable.size = 0;
        }
    }

    private static final class Job {
        final int number;
        final int kind;
        final int a;
        final int b;
        final int cost;
        int state = NEW;
        int result = 0;
        int thrown = 0;
        Job next = null;

        Job(int number, int kind, int a, int b, int cost) {
            this.number = number;
            this.kind = kind;
            this.a = a;
            this.b = b;
            this.cost = cost;
        }

        int nextNumber() {
            return next == null ? -1 : next.number;
        }

        void succeed(int answer) {
            state = DONE;
            result = answer;
        }

        void fail(int what) {
            state = FAILED;
            thrown = what;
        }

        void divide() {
            if (b == 0) {
                fail(BAD_DIVISOR);
            } else {
                succeed(a / b);
            }
        }

        void pick() {
            if (a >= 0 && a < PICKS.length) {
                succeed(PICKS[a]);
            } else if (a == PICKS.length) {
                succeed(b);
            } else {
                fail(BAD_PICK);
            }
        }
    }

    /** BUSY with its job, or IDLE without one. */
    private static final class Worker {
        Job job = null;
        int left = 0;
        double idleSince = 0.0;

        void begin(Job taken) {
            taken.state = RUNNING;
            job = taken;
            left = taken.cost;
        }

        void rest(double now) {
            job = null;
            left = 0;
            idleSince = now;
        }
    }

    /** The workers in the order in which they came. */
    private static final class Crew {
        final Worker[] workers = new Worker[MOST_WORKERS];
        int size = 0;
        int mostSeen = 0;

        Crew() {
            for (int i = 0; i < MOST_WORKERS; i++) {
                workers[i] = new Worker();
            }
        }

        Worker at(int place) {
            return place >= 0 && place < size ? workers[place] : null;
        }

        Worker firstIdle() {
            return at(placeOf(null));
        }

        /** The place of the first worker with this job, or of the first IDLE one for null; -1 if there is none. */
        int placeOf(Job job) {
            for (int i = 0; i < size; i++) {
                if (workers[i].job == job) {
                    return i;
                }
            }
            return -1;
        }

        int busy() {
            int busy = 0;
            for (int i = 0; i < size; i++) {
                if (workers[i].job != null) {
                    busy++;
                }
            }
            return busy;
        }

        void hire(Job job) {
            if (size >= MOST_WORKERS) {
                return;
            }
            workers[size].begin(job);
            size++;
            mostSeen = Math.max(mostSeen, size);
        }

        /** Who goes is kept behind the others, to be hired again. */
        void dismiss(int place) {
            Worker gone = at(place);
            if (gone == null) {
                return;
            }
            for (int i = place; i < size - 1; i++) {
                workers[i] = workers[i + 1];
            }
            size--;
            workers[size] = gone;
        }

        int cancelAll(double now) {
            int cancelled = 0;
            for (int i = 0; i < size; i++) {
                Job job = workers[i].job;
                if (job != null) {
                    job.state = CANCELLED;
                    workers[i].rest(now);
                    cancelled++;
                }
            }
            return cancelled;
        }
    }

    /** The QUEUE, and how long jobs were in it. */
    private static final class Line {
        final Job[] jobs = new Job[MOST_ROOM];
        final double[] came = new double[MOST_ROOM];
        int size = 0;
        int taken = 0;
        double waited = 0.0;

        int placeOf(Job job) {
            for (int i = 0; i < size; i++) {
                if (jobs[i] == job) {
                    return i;
                }
            }
            return -1;
        }

        void add(Job job, double now) {
            if (size >= MOST_ROOM) {
                return;
            }
            job.state = QUEUED;
            jobs[size] = job;
            came[size] = now;
            size++;
        }

        /** Answers the job that stood at the place, null if none did. */
        Job removeAt(int place) {
            if (place < 0 || place >= size) {
                return null;
            }
            Job removed = jobs[place];
            for (int i = place; i < size - 1; i++) {
                jobs[i] = jobs[i + 1];
                came[i] = came[i + 1];
            }
            size--;
            return removed;
        }

        /** Answers the first job, null if there is none. */
        Job takeFirst(double now) {
            if (size == 0) {
                return null;
            }
            waited += now - came[0];
            taken++;
            return removeAt(0);
        }

        int cancelAll() {
            int cancelled = size;
            for (int i = 0; i < size; i++) {
                jobs[i].state = CANCELLED;
            }
            size = 0;
            return cancelled;
        }
    }

    /** The CLOCK: its entries stand in the order in which they were put. */
    private static final class Timetable {
        final Job[] jobs = new Job[MOST_ENTRIES];
        final double[] times = new double[MOST_ENTRIES];
        final double[] periods = new double[MOST_ENTRIES];
        int size = 0;

        void put(Job job, double at, double period) {
            if (size >= MOST_ENTRIES) {
                return;
            }
            jobs[size] = job;
            times[size] = at;
            periods[size] = period;
            size++;
        }

        /** The place of the first entry to fire, -1 if there is none. */
        int firstPlace() {
            int first = -1;
            for (int i = 0; i < size; i++) {
                if (first < 0 || times[i] < times[first]) {
                    first = i;
                }
            }
            return first;
        }

        boolean hasEntryUpTo(double goal) {
            int first = firstPlace();
            return first >= 0 && times[first] <= goal;
        }

        void removeAt(int place) {
            if (place < 0 || place >= size) {
                return;
            }
            for (int i = place; i < size - 1; i++) {
                jobs[i] = jobs[i + 1];
                times[i] = times[i + 1];
                periods[i] = periods[i + 1];
            }
            size--;
        }
    }
}
