/** Promises 19 (day), 24 (use), 26 (firstFree) and 32 (fullest). */
public final class NightsTest {
    private static final int BAD_VALUE = HutBookings.BAD_VALUE;
    private static final int NONE = HutBookings.NONE;

    private static final Due due = new Due("NightsTest");

    public static void main(String[] args) {
        dayTells();
        dayTakesItsRanges();
        dayOfAPastNight();
        strandedGroupsTakeNoBeds();
        useIsTheMean();
        firstFreeFindsTheDay();
        firstFreeEndsWith899();
        firstFreeBeginsNow();
        fullestFindsTheFirst();
        due.end();
    }

    private static void dayTells() {
        HutBookings hut = new HutBookings();
        hut.book(3, 2, 4);
        hut.book(4, 1, 3);
        hut.book(4, 3, 1);
        hut.book(5, 2, 2);
        hut.cancel(3);
        hut.weather(4, 4, 5);
        due.is("taken", hut.day(4, 0), 8);
        due.is("left", hut.day(4, 1), 2);
        due.is("weather", hut.day(4, 2), 5);
        due.is("arrive", hut.day(4, 3), 2);
        due.is("end", hut.day(5, 4), 2);
        due.is("a cancelled one does not arrive", hut.day(5, 3), 0);
        due.is("a cancelled one has no end", hut.day(7, 4), 1);
        due.is("weather of the next day", hut.day(5, 2), 0);
        hut.pass(4);
        due.is("one there has an end", hut.day(5, 4), 2);
        due.is("one there does not arrive", hut.day(3, 3), 0);
        due.is("taken by those there", hut.day(3, 0), 4);
        hut.set(0, 8);
        due.is("left of fewer beds", hut.day(4, 1), 0);
    }

    private static void dayTakesItsRanges() {
        HutBookings hut = new HutBookings();
        hut.weather(999, 999, 3);
        due.is("day -1", hut.day(-1, 0), BAD_VALUE);
        due.is("day 1000", hut.day(1000, 0), BAD_VALUE);
        due.is("what -1", hut.day(0, -1), BAD_VALUE);
        due.is("what 5", hut.day(0, 5), BAD_VALUE);
        due.is("day 999", hut.day(999, 2), 3);
        due.is("day 0", hut.day(0, 1), 10);
    }

    private static void dayOfAPastNight() {
        HutBookings hut = new HutBookings();
        hut.book(0, 1, 6);
        hut.book(0, 3, 4);
        hut.pass(2);
        due.is("the gone ones are not counted", hut.day(0, 0), 4);
        due.is("weather of the past", hut.day(0, 2), 0);
    }

    private static void strandedGroupsTakeNoBeds() {
        HutBookings hut = new HutBookings();
        hut.book(0, 1, 6);
        hut.weather(1, 5, 2);
        hut.pass(2);
        due.is("its own night", hut.day(0, 0), 6);
        due.is("a night behind its end", hut.day(2, 0), 0);
        due.is("all beds can be booked", hut.book(2, 1, 9), 1);
    }

    private static void useIsTheMean() {
        HutBookings hut = new HutBookings();
        due.isDouble("nothing", hut.use(0, 999), 0.0);
        hut.book(2, 3, 5);
        hut.book(4, 2, 4);
        due.isDouble("one night", hut.use(2, 2), 0.5);
        due.isDouble("two", hut.use(3, 4), 14.0 / 20.0);
        due.isDouble("all", hut.use(0, 6), 23.0 / 70.0);
        due.isDouble("a thousand", hut.use(0, 999), 23.0 / 10000.0);
        due.isDouble("the end", hut.use(5, 6), 4.0 / 20.0);
        due.isDouble("behind it", hut.use(6, 6), 0.0);
        hut.set(0, 30);
        due.isDouble("of 30 beds", hut.use(4, 4), 9.0 / 30.0);
        HutBookings small = new HutBookings();
        small.set(0, 1);
        small.book(0, 1, 1);
        due.isDouble("of one bed", small.use(0, 1), 0.5);
        due.isDouble("from -1", hut.use(-1, 5), -1.0);
        due.isDouble("to 1000", hut.use(5, 1000), -1.0);
        due.isDouble("to before from", hut.use(5, 4), -1.0);
        due.isDouble("to far off", hut.use(0, Integer.MAX_VALUE), -1.0);
    }

    private static void firstFreeFindsTheDay() {
        HutBookings hut = new HutBookings();
        hut.book(1, 2, 6);
        hut.book(4, 1, 8);
        due.is("one night before", hut.firstFree(1, 9), 0);
        due.is("two nights between", hut.firstFree(1, 4), 0);
        due.is("two persons find all nights", hut.firstFree(9, 2), 0);
        due.is("three pass the second", hut.firstFree(4, 3), 0);
        due.is("three for five nights", hut.firstFree(5, 3), 5);
        due.is("nine for two nights", hut.firstFree(2, 9), 5);
        due.is("nights 0", hut.firstFree(0, 1), BAD_VALUE);
        due.is("nights 10", hut.firstFree(10, 1), BAD_VALUE);
        due.is("persons 0", hut.firstFree(1, 0), BAD_VALUE);
        due.is("persons 10", hut.firstFree(1, 10), BAD_VALUE);
        hut.set(0, 8);
        due.is("more than the beds", hut.firstFree(1, 9), NONE);
        due.is("just the beds", hut.firstFree(2, 8), 5);
        due.is("no act", hut.count(23), 3);
    }

    private static void firstFreeEndsWith899() {
        HutBookings hut = new HutBookings();
        hut.set(0, 1);
        hut.book(0, 9, 1);
        for (int i = 0; i < 30; i++) {
            hut.pass(30);
        }
        due.is("the day 900", hut.firstFree(1, 1), NONE);
        HutBookings other = new HutBookings();
        for (int i = 0; i < 29; i++) {
            other.pass(30);
        }
        for (int day = 870; day < 899; day++) {
            other.book(day, 1, 9);
        }
        due.is("only the last day", other.firstFree(9, 2), 899);
        other.book(907, 1, 9);
        other.book(899, 9, 9);
        due.is("not even that", other.firstFree(1, 2), NONE);
        due.is("one person", other.firstFree(9, 1), 870);
    }

    private static void firstFreeBeginsNow() {
        HutBookings hut = new HutBookings();
        hut.pass(5);
        due.is("now", hut.firstFree(1, 1), 5);
        hut.book(5, 2, 9);
        due.is("behind them", hut.firstFree(1, 2), 7);
    }

    private static void fullestFindsTheFirst() {
        HutBookings hut = new HutBookings();
        due.is("none", hut.fullest(), NONE);
        hut.book(9, 1, 1);
        due.is("one person", hut.fullest(), 9);
        hut.undo();
        hut.book(3, 3, 2);
        due.is("the first of three", hut.fullest(), 3);
        hut.book(5, 2, 2);
        due.is("where both are", hut.fullest(), 5);
        hut.book(899, 9, 5);
        due.is("far off", hut.fullest(), 899);
        hut.cancel(2);
        hut.pass(4);
        due.is("still", hut.fullest(), 5);
        hut.pass(2);
        due.is("from now on", hut.fullest(), 6);
        hut.pass(1);
        due.is("none from now on", hut.fullest(), NONE);
    }
}
