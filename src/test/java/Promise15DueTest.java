/** Promise 15: due is the time of the first ENTRY. */
public final class Promise15DueTest {
    public static void main(String[] args) {
        theTimeOfTheFirst();
        anEmptyClock();
        Check.end();
    }

    /** "The time of the first ENTRY" */
    private static void theTimeOfTheFirst() {
        WorkHall hall = Check.full(1);
        hall.clock(0, 7.5, 0.0);
        Check.same("one", hall.due(), 7.5);
        hall.clock(0, 8.0, 0.0);
        Check.same("a later one", hall.due(), 7.5);
        hall.clock(0, 2.0, 4.0);
        Check.same("an earlier one", hall.due(), 2.0);
        hall.tick(2.0);
        Check.same("put anew", hall.due(), 6.0);
        hall.tick(5.0);
        Check.same("the first again", hall.due(), 7.5);
        hall.tick(100.0);
        Check.same("always with its own period", hall.due(), 82.0);
    }

    /** "there is none: NoSuchElementException": at first, after the last FIRED, and in an ENDED pool. */
    private static void anEmptyClock() {
        WorkHall hall = Check.full(1);
        Check.refused("at first", Check.NO_ELEMENT, () -> hall.due());
        hall.clock(0, 0.0, 0.0);
        Check.same("at 0.0", hall.due(), 0.0);
        hall.tick(0.0);
        Check.refused("after the last FIRED", Check.NO_ELEMENT, () -> hall.due());
        hall.clock(0, 1000.0, 1000.0);
        Check.same("at 1000.0", hall.due(), 1000.0);
        hall.shut(false);
        Check.same("of a CLOSING pool", hall.due(), 1000.0);
        hall.step(5);
        Check.refused("of an ENDED pool", Check.NO_ELEMENT, () -> hall.due());
    }
}
