/** All that a hall shows of itself, as one text, so that two moments or two halls can be compared. */
final class Looks {
    private interface OneNumber {
        Object ask(int number);
    }

    private interface TwoNumbers {
        Object ask(int first, int second);
    }

    private Looks() {
    }

    static String of(WorkHall hall) {
        return told(hall::count, hall::worker, hall::about, hall::get, hall::delay, hall::due);
    }

    static String of(PlainHall hall) {
        return told(hall::count, hall::worker, hall::about, hall::get, hall::delay, hall::due);
    }

    private static String told(OneNumber count, OneNumber worker, TwoNumbers about, OneNumber get,
            Check.Call delay, Check.Call due) {
        StringBuilder seen = new StringBuilder();
        for (int what = 0; what <= 7; what++) {
            seen.append(count.ask(what)).append(' ');
        }
        int workers = (Integer) count.ask(1);
        for (int i = 0; i <= workers; i++) {
            int place = i;
            seen.append(Check.answer(() -> worker.ask(place))).append(' ');
        }
        int made = (Integer) count.ask(0);
        for (int i = 0; i < made; i++) {
            int job = i;
            seen.append(job).append(": ");
            for (int what = 0; what <= 4; what++) {
                seen.append(about.ask(job, what)).append(' ');
            }
            seen.append(Check.answer(() -> get.ask(job))).append(' ');
        }
        return seen.append(Check.answer(delay)).append(' ').append(Check.answer(due)).toString();
    }
}
