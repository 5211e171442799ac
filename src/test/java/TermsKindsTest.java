/** Terms: what a JOB of each KIND does when it is PERFORMED, at the edges of each. */
public final class TermsKindsTest {
    private static final int LEAST = Integer.MIN_VALUE;
    private static final int GREATEST = Integer.MAX_VALUE;

    public static void main(String[] args) {
        valueIsItsNumber();
        divideIsCutTowardZero();
        divideWraps();
        divideByZeroThrowsOne();
        pickIsAnElementOfTheRow();
        pickBesideTheRowThrowsTwo();
        sumWraps();
        sumOfOneThatIsNotDoneThrowsThree();
        sumOfNoJobThrowsThree();
        sumOfADoneJobThatIsNewAgainThrowsThree();
        forkHasTheStateThen();
        forkRefusedByPolicyZeroThrowsFour();
        forkRefusedByAPoolThatIsNotOpenThrowsFour();
        forkOfAJobThatIsNotNewThrowsFour();
        forkOfNoJobThrowsFour();
        forkOfOneThatIsPerformedAtOnceThrowsFour();
        forksInARingAtOnceEnd();
        aNextThatIsPerformedAtOnceIsNotNew();
        crashThrowsFive();
        Check.end();
    }

    /** "VALUE: its RESULT is a." */
    private static void valueIsItsNumber() {
        for (int a : new int[] {LEAST, -1, 0, 1, GREATEST}) {
            Check.same("VALUE " + a, outcome(0, a, 5), "RESULT " + a);
        }
    }

    /** "DIVIDE: a divided by b, cut toward 0" */
    private static void divideIsCutTowardZero() {
        int[][] cases = {{7, 2, 3}, {-7, 2, -3}, {7, -2, -3}, {-7, -2, 3}, {1, 2, 0}, {-1, 2, 0}, {0, 9, 0},
            {0, -9, 0}, {GREATEST, LEAST, 0}, {LEAST, GREATEST, -1}, {LEAST, 1, LEAST}, {GREATEST, -1, -GREATEST}};
        for (int[] one : cases) {
            Check.same("DIVIDE " + one[0] + " by " + one[1], outcome(1, one[0], one[1]), "RESULT " + one[2]);
        }
    }

    /** "(wraps)": the one quotient that is no int. */
    private static void divideWraps() {
        Check.same("DIVIDE the least by -1", outcome(1, LEAST, -1), "RESULT " + LEAST);
    }

    /** "b 0: it throws 1" */
    private static void divideByZeroThrowsOne() {
        for (int a : new int[] {LEAST, -1, 0, 1, GREATEST}) {
            Check.same("DIVIDE " + a + " by 0", outcome(1, a, 0), "threw 1");
        }
    }

    /** "PICK: element a of the row 2, 3, 5, 7, b" */
    private static void pickIsAnElementOfTheRow() {
        for (int b : new int[] {LEAST, 0, GREATEST}) {
            int[] row = {2, 3, 5, 7, b};
            for (int a = 0; a <= 4; a++) {
                Check.same("PICK " + a + " with b " + b, outcome(2, a, b), "RESULT " + row[a]);
            }
        }
    }

    /** "a is not 0 .. 4: it throws 2" */
    private static void pickBesideTheRowThrowsTwo() {
        for (int a : new int[] {LEAST, -1, 5, GREATEST}) {
            Check.same("PICK " + a, outcome(2, a, 11), "threw 2");
        }
    }

    /** "SUM: the RESULTS of JOBS a and b, added (wraps)" */
    private static void sumWraps() {
        int[][] cases = {{GREATEST, 1, LEAST}, {1, GREATEST, LEAST}, {LEAST, -1, GREATEST}, {LEAST, LEAST, 0},
            {GREATEST, GREATEST, -2}, {GREATEST, LEAST, -1}, {GREATEST, 0, GREATEST}, {-3, 3, 0}};
        for (int[] one : cases) {
            WorkHall hall = Check.full(3);
            hall.submit(hall.job(0, one[0], 0, 1));
            hall.submit(hall.job(0, one[1], 0, 1));
            int sum = hall.job(3, 1, 2, 1);
            hall.submit(sum);
            Check.same("SUM of " + one[0] + " and " + one[1], hall.get(sum), one[2]);
        }
        WorkHall twice = Check.withEveryState(3, 3, 3);
        twice.step(2);
        Check.same("SUM of one JOB and itself", twice.get(7), 14);
    }

    /** "one is not DONE: it throws 3": each STATE, on each side. */
    private static void sumOfOneThatIsNotDoneThrowsThree() {
        for (int job = 0; job <= 7; job++) {
            if (job == 3) {
                continue;
            }
            int[][] pairs = {{job, 3}, {3, job}, {job, job}};
            for (int[] pair : pairs) {
                WorkHall hall = Check.withEveryState(3, pair[0], pair[1]);
                hall.step(2);
                Check.same("SUM of JOBS " + pair[0] + " and " + pair[1], told(hall, 7), "threw 3");
            }
        }
    }

    private static void sumOfNoJobThrowsThree() {
        for (int job : new int[] {LEAST, -1, 8, 23, 24, GREATEST}) {
            int[][] pairs = {{job, 3}, {3, job}, {job, job}};
            for (int[] pair : pairs) {
                WorkHall hall = Check.withEveryState(3, pair[0], pair[1]);
                hall.step(2);
                Check.same("SUM of " + pair[0] + " and " + pair[1], told(hall, 7), "threw 3");
            }
        }
    }

    private static void sumOfADoneJobThatIsNewAgainThrowsThree() {
        WorkHall hall = new WorkHall(2, 2, 0, 0);
        int value = Check.value(hall, 1);
        hall.submit(value);
        hall.step(1);
        hall.clock(value, 0.0, 0.0);
        hall.submit(hall.job(3, value, value, 1));
        hall.tick(0.0);
        Check.same("the VALUE is RUNNING again", Check.state(hall, value), 2);
        hall.cancel(value, true);
        hall.step(1);
        Check.same("SUM of what was DONE once", told(hall, 1), "threw 3");
    }

    /** "FORK: JOB a is SUBMITTED, the RESULT is its STATE then" */
    private static void forkHasTheStateThen() {
        Check.same("a new WORKER is there for it", forked(new WorkHall(2, 2, 0, 0), 0), "RESULT 2");
        Check.same("it is QUEUED", forked(new WorkHall(1, 1, 1, 0), 0), "RESULT 1");
        Check.same("POLICY 1", forked(new WorkHall(1, 1, 0, 1), 0), "RESULT 5");
        Check.same("POLICY 2", forked(new WorkHall(1, 1, 0, 2), 0), "RESULT 5");
        Check.same("POLICY 3, DONE", forked(new WorkHall(1, 1, 0, 3), 0), "RESULT 3");
        Check.same("POLICY 3, FAILED", forked(new WorkHall(1, 1, 0, 3), 5), "RESULT 4");
    }

    /** "if that is refused by POLICY 0 .. : it throws 4" */
    private static void forkRefusedByPolicyZeroThrowsFour() {
        WorkHall hall = new WorkHall(1, 1, 0, 0);
        Check.same("refused by POLICY 0", forked(hall, 0), "threw 4");
        Check.same("the other JOB", Check.state(hall, 0), 6);
    }

    /** "the POOL is not OPEN: POLICY 0 applies" */
    private static void forkRefusedByAPoolThatIsNotOpenThrowsFour() {
        for (int policy = 0; policy <= 3; policy++) {
            WorkHall hall = new WorkHall(3, 5, 4, policy);
            int target = Check.value(hall, 1);
            int fork = Check.fork(hall, target, 1);
            hall.submit(fork);
            hall.shut(false);
            hall.step(1);
            Check.same("FORK when CLOSING, POLICY " + policy, told(hall, fork), "threw 4");
            Check.same("the other JOB", Check.state(hall, target), 6);
        }
    }

    /** "or JOB a is not NEW: it throws 4": each STATE, and none of them changes, though the QUEUE has room. */
    private static void forkOfAJobThatIsNotNewThrowsFour() {
        for (int job = 2; job <= 6; job++) {
            WorkHall hall = Check.withEveryState(4, job, 0);
            hall.cancel(1, false);
            hall.step(2);
            Check.same("FORK of JOB " + job, told(hall, 7), "threw 4");
            Check.same("JOB " + job + " then", Check.state(hall, job), job);
        }
        WorkHall queued = Check.withEveryState(4, 1, 0);
        queued.step(2);
        Check.same("FORK of a QUEUED JOB", told(queued, 7), "threw 4");
        Check.same("the WORKER of the FORK took it then", queued.about(1, 3), 1);
        WorkHall itself = Check.withEveryState(4, 7, 0);
        itself.step(2);
        Check.same("FORK of itself", told(itself, 7), "threw 4");
    }

    private static void forkOfNoJobThrowsFour() {
        for (int job : new int[] {LEAST, -1, 8, 23, 24, GREATEST}) {
            WorkHall hall = Check.withEveryState(4, job, 0);
            hall.step(2);
            Check.same("FORK of " + job, told(hall, 7), "threw 4");
        }
    }

    /** "JOB a is not NEW: it throws 4": one that is PERFORMED at once is not, whatever SUBMITTED it. */
    private static void forkOfOneThatIsPerformedAtOnceThrowsFour() {
        WorkHall bySubmit = Check.full(3);
        Check.same("submit", bySubmit.submit(Check.fork(bySubmit, 1, 1)), 4);
        itselfThrewFour("by submit", bySubmit, 1);
        WorkHall byClock = Check.full(3);
        byClock.clock(Check.fork(byClock, 1, 1), 0.0, 0.0);
        byClock.tick(0.0);
        itselfThrewFour("by the CLOCK", byClock, 1);
        WorkHall byNext = Check.full(3);
        byNext.then(0, Check.fork(byNext, 1, 1));
        byNext.step(5);
        itselfThrewFour("as a NEXT", byNext, 2);
        WorkHall byFork = Check.full(3);
        byFork.submit(Check.fork(byFork, 2, 1));
        Check.same("not made yet", byFork.about(1, 4), 4);
        int inner = Check.fork(byFork, 2, 1);
        byFork.clock(1, 0.0, 0.0);
        byFork.tick(0.0);
        Check.same("the outer FORK has the STATE of the inner", told(byFork, 1), "RESULT 4");
        Check.same("by FORK", told(byFork, inner), "threw 4");
    }

    private static void itselfThrewFour(String how, WorkHall hall, int ended) {
        Check.same("FORK of itself, SUBMITTED " + how, told(hall, 1), "threw 4");
        Check.same("it ENDED once", hall.count(6), ended);
    }

    /** Each FORKS the one behind it, and the last the first, which is not NEW. */
    private static void forksInARingAtOnceEnd() {
        for (int last = 1; last <= 23; last++) {
            WorkHall hall = Check.full(3);
            for (int job = 1; job <= last; job++) {
                Check.fork(hall, job == last ? 1 : job + 1, 1);
            }
            Check.same("a ring of " + last, hall.submit(1), last == 1 ? 4 : 3);
            Check.same("each ENDED once", hall.count(6), last);
            for (int job = 1; job <= last; job++) {
                String due = job == last ? "threw 4" : job == last - 1 ? "RESULT 4" : "RESULT 3";
                Check.same("JOB " + job + " of " + last, told(hall, job), due);
            }
        }
    }

    /** "has a NEXT that is NEW": the FORK that waits for it is not, so it is not SUBMITTED again. */
    private static void aNextThatIsPerformedAtOnceIsNotNew() {
        WorkHall hall = Check.full(3);
        int fork = Check.fork(hall, 2, 1);
        int value = Check.value(hall, 1);
        hall.then(value, fork);
        Check.same("submit", hall.submit(fork), 3);
        Check.same("the FORK", told(hall, fork), "RESULT 3");
        Check.same("the VALUE", told(hall, value), "RESULT 7");
        Check.same("each ENDED once", hall.count(6), 2);
    }

    /** "CRASH: it throws 5." */
    private static void crashThrowsFive() {
        Check.same("CRASH", outcome(5, 1, 1), "threw 5");
    }

    /** What a JOB made of these has after it was PERFORMED by a WORKER. */
    private static String outcome(int kind, int a, int b) {
        WorkHall hall = new WorkHall(1, 1, 0, 0);
        hall.submit(hall.job(kind, a, b, 1));
        hall.step(1);
        return told(hall, 0);
    }

    /** What JOB 1, a FORK of JOB 0, has after a WORKER PERFORMED it. */
    private static String forked(WorkHall hall, int kind) {
        hall.job(kind, 0, 0, 5);
        hall.submit(Check.fork(hall, 0, 1));
        hall.step(1);
        return told(hall, 1);
    }

    private static String told(WorkHall hall, int job) {
        return Check.state(hall, job) == 3 ? "RESULT " + hall.get(job) : "threw " + hall.about(job, 4);
    }
}
