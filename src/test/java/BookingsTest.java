/** Promises 2 (book), 4 (cancel), 5 (extend), 18 (booking) and 25 (refund). */
public final class BookingsTest {
    private static final int UNKNOWN = HutBookings.UNKNOWN;
    private static final int BAD_VALUE = HutBookings.BAD_VALUE;
    private static final int FULL = HutBookings.FULL;
    private static final int NOT_POSSIBLE = HutBookings.NOT_POSSIBLE;
    private static final int NONE = HutBookings.NONE;

    private static final Due due = new Due("BookingsTest");

    public static void main(String[] args) {
        bookTakesItsRanges();
        bookNeedsBedsInEachNight();
        bookEndsWithEighty();
        bookTakesTheDepositOfNow();
        cancelGivesBackInTime();
        cancelGivesBackWhenTheWayIsClosed();
        cancelOfALateGroup();
        cancelNeedsABooking();
        cancelCountsFromNow();
        extendStaysLonger();
        extendNeedsBeds();
        extendNeedsAnEndThatIsNotPast();
        bookingTells();
        bookingTellsWhoIsStranded();
        due.end();
    }

    private static void bookTakesItsRanges() {
        HutBookings hut = new HutBookings();
        due.is("book before now", hut.book(-1, 1, 1), BAD_VALUE);
        due.is("book behind 899", hut.book(900, 1, 1), BAD_VALUE);
        due.is("book no nights", hut.book(0, 0, 1), BAD_VALUE);
        due.is("book 10 nights", hut.book(0, 10, 1), BAD_VALUE);
        due.is("book nobody", hut.book(0, 1, 0), BAD_VALUE);
        due.is("book 10 persons", hut.book(0, 1, 10), BAD_VALUE);
        due.is("book far off", hut.book(Integer.MAX_VALUE, Integer.MAX_VALUE, Integer.MAX_VALUE), BAD_VALUE);
        due.is("book far back", hut.book(Integer.MIN_VALUE, Integer.MIN_VALUE, Integer.MIN_VALUE), BAD_VALUE);
        due.is("no states", hut.count(23), 0);
        due.is("no bookings", hut.count(1), 0);
        due.is("book the first day", hut.book(0, 1, 1), 0);
        due.is("book the last day", hut.book(899, 9, 9), 1);
        due.is("states", hut.count(23), 2);
        due.is("pass", hut.pass(2), 2);
        due.is("book yesterday", hut.book(1, 9, 1), BAD_VALUE);
        due.is("book today", hut.book(2, 9, 1), 2);
    }

    private static void bookNeedsBedsInEachNight() {
        HutBookings hut = new HutBookings();
        due.is("book", hut.book(5, 2, 7), 0);
        due.is("too many in the last night", hut.book(2, 4, 4), NOT_POSSIBLE);
        due.is("too many in the first night", hut.book(6, 4, 4), NOT_POSSIBLE);
        due.is("up to the night before", hut.book(2, 3, 4), 1);
        due.is("from the end on", hut.book(7, 3, 9), 2);
        due.is("just the beds that are left", hut.book(5, 2, 3), 3);
        due.is("one more", hut.book(6, 1, 1), NOT_POSSIBLE);
        due.is("states", hut.count(23), 4);
        due.is("cancel", hut.cancel(0), 70);
        due.is("a cancelled group has no beds", hut.book(6, 1, 7), 4);
    }

    private static void bookEndsWithEighty() {
        HutBookings hut = new HutBookings();
        for (int i = 0; i < 80; i++) {
            due.is("book", hut.book(10 + i, 1, 9), i);
        }
        due.is("cancel", hut.cancel(0), 45);
        due.is("one too many", hut.book(200, 1, 1), FULL);
        due.is("no beds comes first", hut.book(11, 1, 9), NOT_POSSIBLE);
        due.is("a wrong value comes first", hut.book(900, 1, 1), BAD_VALUE);
        due.is("bookings", hut.count(1), 80);
        due.is("undo the cancelling", hut.undo(), 3);
        due.is("undo the last booking", hut.undo(), 2);
        due.is("there is room again", hut.book(200, 1, 1), 79);
    }

    private static void bookTakesTheDepositOfNow() {
        HutBookings hut = new HutBookings();
        due.is("book", hut.book(10, 3, 2), 0);
        due.is("coins", hut.coins(0), 30);
        due.is("set", hut.set(3, 7), 5);
        due.is("the deposit stays", hut.booking(0, 7), 30);
        due.is("book", hut.book(20, 2, 4), 1);
        due.is("deposit", hut.booking(1, 7), 56);
        due.is("coins", hut.coins(0), 86);
        due.is("deposits", hut.coins(1), 86);
    }

    private static void cancelGivesBackInTime() {
        HutBookings hut = new HutBookings();
        hut.book(3, 2, 2);
        hut.book(2, 2, 2);
        due.is("refund in time", hut.refund(0), 20);
        due.is("refund too late", hut.refund(1), 0);
        due.is("in time", hut.cancel(0), 20);
        due.is("coins", hut.coins(0), 20);
        due.is("kept", hut.coins(2), 0);
        due.is("too late", hut.cancel(1), 0);
        due.is("coins", hut.coins(0), 20);
        due.is("kept", hut.coins(2), 20);
        due.is("held", hut.coins(1), 0);
        due.is("cancelled", hut.booking(1, 0), 3);
        due.is("states", hut.count(23), 4);
        due.is("set the notice", hut.set(4, 0), 3);
        hut.book(0, 1, 1);
        due.is("refund on the day of arrival", hut.refund(2), 5);
        due.is("without notice", hut.cancel(2), 5);
    }

    private static void cancelGivesBackWhenTheWayIsClosed() {
        HutBookings hut = new HutBookings();
        hut.book(1, 2, 2);
        hut.weather(1, 1, 6);
        due.is("the way down does not count", hut.refund(0), 0);
        hut.weather(1, 1, 0);
        hut.weather(2, 2, 1);
        hut.weather(0, 0, 1);
        due.is("only the day of arrival counts", hut.refund(0), 0);
        hut.weather(1, 1, 1);
        due.is("refund", hut.refund(0), 20);
        due.is("cancel", hut.cancel(0), 20);
        due.is("coins", hut.coins(0), 0);
        due.is("kept", hut.coins(2), 0);
    }

    private static void cancelOfALateGroup() {
        HutBookings hut = new HutBookings();
        hut.set(4, 0);
        hut.book(0, 4, 1);
        hut.weather(0, 1, 1);
        hut.pass(2);
        due.is("it did not come yet", hut.booking(0, 0), 0);
        due.is("the way was closed then", hut.refund(0), 20);
        due.is("cancel", hut.cancel(0), 20);
    }

    private static void cancelCountsFromNow() {
        HutBookings hut = new HutBookings();
        hut.book(7, 1, 1);
        hut.pass(4);
        due.is("three days before", hut.refund(0), 5);
        hut.pass(1);
        due.is("two days before", hut.refund(0), 0);
        hut.set(4, 2);
        due.is("of a shorter notice", hut.refund(0), 5);
    }

    private static void cancelNeedsABooking() {
        HutBookings hut = new HutBookings();
        due.is("cancel none", hut.cancel(0), UNKNOWN);
        due.is("refund of none", hut.refund(0), UNKNOWN);
        hut.book(0, 1, 1);
        hut.book(5, 1, 1);
        due.is("cancel -1", hut.cancel(-1), UNKNOWN);
        due.is("refund -1", hut.refund(-1), UNKNOWN);
        due.is("cancel 2", hut.cancel(2), UNKNOWN);
        due.is("refund 80", hut.refund(80), UNKNOWN);
        hut.cancel(1);
        due.is("cancel it again", hut.cancel(1), NOT_POSSIBLE);
        due.is("refund of it again", hut.refund(1), NOT_POSSIBLE);
        hut.pass(1);
        due.is("cancel who is there", hut.cancel(0), NOT_POSSIBLE);
        due.is("refund of who is there", hut.refund(0), NOT_POSSIBLE);
        hut.pass(1);
        due.is("cancel who is gone", hut.cancel(0), NOT_POSSIBLE);
        due.is("states", hut.count(23), 4);
    }

    private static void extendStaysLonger() {
        HutBookings hut = new HutBookings();
        hut.book(0, 2, 3);
        due.is("who is not there", hut.extend(0, 1), NOT_POSSIBLE);
        hut.pass(1);
        due.is("unknown", hut.extend(1, 1), UNKNOWN);
        due.is("unknown", hut.extend(-1, 0), UNKNOWN);
        due.is("no nights", hut.extend(0, 0), BAD_VALUE);
        due.is("10 nights", hut.extend(0, 10), BAD_VALUE);
        due.is("10 nights in all", hut.extend(0, 8), NOT_POSSIBLE);
        due.is("11 nights in all", hut.extend(0, 9), NOT_POSSIBLE);
        due.is("states", hut.count(23), 2);
        due.is("one more", hut.extend(0, 1), 3);
        due.is("states", hut.count(23), 3);
        due.is("nights", hut.booking(0, 2), 3);
        due.is("9 nights in all", hut.extend(0, 6), 9);
        due.is("the deposit stays", hut.booking(0, 7), 30);
        due.is("the night is taken", hut.day(8, 0), 3);
        due.is("the end is not", hut.day(9, 0), 0);
        due.is("none more", hut.extend(0, 1), NOT_POSSIBLE);
        hut.pass(9);
        due.is("gone", hut.booking(0, 0), 2);
        due.is("coins", hut.coins(0), 540);
    }

    private static void extendNeedsBeds() {
        HutBookings hut = new HutBookings();
        hut.book(0, 1, 4);
        hut.book(2, 1, 7);
        hut.pass(1);
        due.is("two more", hut.extend(0, 2), NOT_POSSIBLE);
        due.is("one more", hut.extend(0, 1), 2);
        due.is("then another", hut.extend(0, 1), NOT_POSSIBLE);
        hut.cancel(1);
        due.is("then it may", hut.extend(0, 1), 3);
    }

    private static void extendNeedsAnEndThatIsNotPast() {
        HutBookings hut = new HutBookings();
        hut.book(0, 1, 2);
        hut.weather(1, 3, 2);
        hut.pass(1);
        due.is("its end is now", hut.extend(0, 1), 2);
        hut.pass(2);
        due.is("its end was yesterday", hut.extend(0, 1), NOT_POSSIBLE);
        due.is("it is stranded", hut.booking(0, 6), 1);
    }

    private static void bookingTells() {
        HutBookings hut = new HutBookings();
        due.is("none", hut.booking(0, 0), UNKNOWN);
        due.is("none comes first", hut.booking(0, 9), UNKNOWN);
        hut.weather(4, 4, 1);
        hut.book(4, 3, 2);
        due.is("what -1", hut.booking(0, -1), BAD_VALUE);
        due.is("what 9", hut.booking(0, 9), BAD_VALUE);
        due.is("booked", hut.booking(0, 0), 0);
        due.is("arrives", hut.booking(0, 1), 4);
        due.is("nights", hut.booking(0, 2), 3);
        due.is("persons", hut.booking(0, 3), 2);
        due.is("end", hut.booking(0, 4), 7);
        due.is("slept", hut.booking(0, 5), 0);
        due.is("stranded", hut.booking(0, 6), 0);
        due.is("deposit", hut.booking(0, 7), 30);
        due.is("did not come", hut.booking(0, 8), NONE);
        hut.pass(7);
        due.is("there", hut.booking(0, 0), 1);
        due.is("slept", hut.booking(0, 5), 2);
        due.is("came a day late", hut.booking(0, 8), 5);
        hut.pass(1);
        due.is("gone", hut.booking(0, 0), 2);
        due.is("still its deposit", hut.booking(0, 7), 30);
        due.is("still its day", hut.booking(0, 8), 5);
        due.is("still its nights", hut.booking(0, 5), 2);
    }

    private static void bookingTellsWhoIsStranded() {
        HutBookings hut = new HutBookings();
        hut.book(0, 1, 2);
        hut.book(0, 2, 2);
        hut.weather(1, 1, 2);
        hut.weather(2, 2, 5);
        hut.pass(1);
        due.is("its end is now, the way down is closed", hut.booking(0, 6), 1);
        due.is("its end is later", hut.booking(1, 6), 0);
        due.is("the end", hut.day(1, 4), 1);
        hut.pass(1);
        due.is("the way down is open", hut.booking(0, 6), 0);
        due.is("slept", hut.booking(0, 5), 2);
        hut.weather(2, 2, 2);
        due.is("closed again", hut.booking(0, 6), 1);
        due.is("its end is now", hut.booking(1, 6), 1);
    }
}
