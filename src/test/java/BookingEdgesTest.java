/** BOOKINGS and promises 2, 4, 5, 18 and 25: the edges of each sentence. */
public final class BookingEdgesTest {
    private static final int UNKNOWN = HutBookings.UNKNOWN;
    private static final int BAD_VALUE = HutBookings.BAD_VALUE;
    private static final int FULL = HutBookings.FULL;
    private static final int NOT_POSSIBLE = HutBookings.NOT_POSSIBLE;
    private static final int NONE = HutBookings.NONE;

    private static final Due due = new Due("BookingEdgesTest");

    public static void main(String[] args) {
        terms();
        book();
        cancel();
        extend();
        tellAndRefund();
        due.end();
    }

    private static void terms() {
        dayOfNowAtFirst();
        atMostEighty();
        allThatCameCount();
        firstNightAndEnd();
        bedsThatAreTaken();
        neverMoreThanTheBeds();
        depositAsItIsThen();
    }

    private static void book() {
        arrives();
        nights();
        persons();
        inOneOfItsNights();
    }

    private static void cancel() {
        asManyDaysAway();
        wayUpClosedOnTheDayOfArrival();
        cancelOfWhoShouldHaveArrived();
        cancelUnknown();
        cancelNotBooked();
    }

    private static void extend() {
        extendUnknown();
        extendNights();
        extendNotThere();
        extendEndEarlierThanNow();
        extendMoreThanNine();
        extendBedsWanting();
    }

    private static void tellAndRefund() {
        bookingUnknown();
        bookingWhat();
        bookingNotCome();
        bookingStranded();
        bookingStrandedByWeather();
        refundIsWhatCancelGives();
    }

    /** On the day 3: 0 is booked, 1 is there, 2 is gone, 3 is cancelled, 4 is turned away. */
    private static HutBookings oneOfEach() {
        HutBookings hut = new HutBookings();
        hut.book(9, 1, 1);
        hut.book(0, 4, 6);
        hut.book(0, 1, 1);
        hut.book(5, 1, 1);
        hut.book(1, 1, 2);
        hut.weather(1, 1, 1);
        hut.cancel(3);
        hut.pass(3);
        for (int how = 0; how < 5; how++) {
            due.is("how it is", hut.booking(how, 0), how);
        }
        return hut;
    }

    private static HutBookings eighty() {
        HutBookings hut = new HutBookings();
        for (int i = 0; i < 80; i++) {
            due.is("book", hut.book(i, 1, 9), i);
        }
        return hut;
    }

    private static void dayOfNowAtFirst() {
        due.sentence("BOOKINGS: The day of now is 0 at first");
        HutBookings hut = new HutBookings();
        due.is("now", hut.count(0), 0);
        due.is("keep", hut.keep(), 0);
        due.is("yesterday", hut.book(-1, 1, 1), BAD_VALUE);
        due.is("today", hut.book(0, 1, 1), 0);
    }

    private static void atMostEighty() {
        due.sentence("BOOKINGS: from 0, in the order in which they came; at most 80 ever");
        HutBookings hut = new HutBookings();
        for (int i = 0; i < 79; i++) {
            due.is("book", hut.book(i, 1, 9), i);
        }
        due.is("bookings", hut.count(1), 79);
        due.is("the last one", hut.book(100, 1, 1), 79);
        due.is("bookings", hut.count(1), 80);
        due.is("one too many", hut.book(101, 1, 1), FULL);
        due.is("bookings still", hut.count(1), 80);
        due.is("no night of it", hut.day(101, 0), 0);
        due.is("no beds is told first", hut.book(0, 1, 2), NOT_POSSIBLE);
        due.is("a wrong value is told first", hut.book(101, 1, 10), BAD_VALUE);
        due.is("undo", hut.undo(), 3);
        due.is("room for one", hut.book(101, 1, 1), 79);
        due.is("and none more", hut.book(102, 1, 1), FULL);
    }

    private static void allThatCameCount() {
        due.sentence("Promise 2: FULL if 80 came, also if they are cancelled, gone or turned away");
        HutBookings hut = eighty();
        hut.weather(1, 1, 1);
        due.is("cancel", hut.cancel(70), 45);
        due.is("one is cancelled", hut.book(70, 1, 1), FULL);
        hut.pass(3);
        due.is("one is gone", hut.count(4), 1);
        due.is("one is turned away", hut.count(6), 1);
        due.is("bookings", hut.count(1), 80);
        due.is("still full", hut.book(90, 1, 1), FULL);
    }

    private static void firstNightAndEnd() {
        due.sentence("BOOKINGS: the first night is that of the day of arrival, the end is the day behind the last one");
        HutBookings hut = new HutBookings();
        hut.book(4, 1, 2);
        due.is("end of one night", hut.booking(0, 4), 5);
        due.is("the night before", hut.day(3, 0), 0);
        due.is("its night", hut.day(4, 0), 2);
        due.is("the night of its end", hut.day(5, 0), 0);
        hut.book(10, 9, 1);
        due.is("end of nine nights", hut.booking(1, 4), 19);
        due.is("the night before", hut.day(9, 0), 0);
        due.is("its first night", hut.day(10, 0), 1);
        due.is("its last night", hut.day(18, 0), 1);
        due.is("the night of its end", hut.day(19, 0), 0);
        due.is("the end", hut.day(19, 4), 1);
    }

    private static void bedsThatAreTaken() {
        due.sentence("BOOKINGS: the beds that are taken are the persons of all bookings that are booked or there");
        HutBookings hut = oneOfEach();
        due.is("by one that is booked", hut.day(9, 0), 1);
        due.is("by one there, not by one gone", hut.day(0, 0), 6);
        due.is("not by one turned away", hut.day(1, 0), 6);
        due.is("by one there, in its last night", hut.day(3, 0), 6);
        due.is("not behind it", hut.day(4, 0), 0);
        due.is("not by one cancelled", hut.day(5, 0), 0);
        due.is("one cancelled has no end", hut.day(6, 4), 0);
        due.is("one there has an end", hut.day(4, 4), 1);
        due.is("one gone has no end", hut.day(1, 4), 0);
    }

    private static void neverMoreThanTheBeds() {
        due.sentence("BOOKINGS: they are never more than the beds there are");
        HutBookings hut = new HutBookings();
        hut.book(0, 3, 4);
        hut.book(0, 1, 6);
        hut.book(1, 1, 5);
        due.is("one too many by book", hut.book(1, 1, 2), NOT_POSSIBLE);
        hut.pass(1);
        due.is("one too many by extend", hut.extend(1, 1), NOT_POSSIBLE);
        due.is("one too many by set", hut.set(0, 8), NOT_POSSIBLE);
        hut.type('1');
        hut.type('+');
        hut.type('1');
        hut.type('x');
        hut.type('2');
        due.is("one too many by bookAll", hut.bookAll(), NOT_POSSIBLE);
        due.is("taken", hut.day(1, 0), 9);
        due.is("the last bed", hut.book(1, 1, 1), 3);
        due.is("none left", hut.day(1, 1), 0);
        due.is("as many as beds", hut.day(1, 0), 10);
    }

    private static void depositAsItIsThen() {
        due.sentence("BOOKINGS: persons times nights times the setting 3 as it is then");
        HutBookings hut = new HutBookings();
        hut.book(0, 1, 1);
        due.is("one person, one night", hut.booking(0, 7), 5);
        hut.book(9, 9, 9);
        due.is("nine persons, nine nights", hut.booking(1, 7), 405);
        hut.set(3, 0);
        hut.book(30, 9, 9);
        due.is("nothing", hut.booking(2, 7), 0);
        due.is("as it was then", hut.booking(1, 7), 405);
        due.is("held", hut.coins(1), 410);
        due.is("had", hut.coins(0), 410);
    }

    private static void arrives() {
        due.sentence("Promise 2: arrives: the day of now to 899");
        HutBookings hut = new HutBookings();
        hut.pass(30);
        due.is("yesterday", hut.book(29, 1, 1), BAD_VALUE);
        due.is("yesterday, for many nights", hut.book(29, 9, 1), BAD_VALUE);
        due.is("today", hut.book(30, 1, 1), 0);
        due.is("the day 900", hut.book(900, 1, 1), BAD_VALUE);
        due.is("the day 899", hut.book(899, 1, 1), 1);
        due.is("far too late", hut.book(Integer.MAX_VALUE, 1, 1), BAD_VALUE);
        due.is("far too early", hut.book(Integer.MIN_VALUE, 1, 1), BAD_VALUE);
        HutBookings late = new HutBookings();
        for (int i = 0; i < 29; i++) {
            late.pass(30);
        }
        late.pass(29);
        due.is("on the day 899", late.book(899, 9, 9), 0);
        late.pass(1);
        due.is("on the day 900", late.book(900, 1, 1), BAD_VALUE);
        due.is("a day back", late.book(899, 1, 1), BAD_VALUE);
    }

    private static void nights() {
        due.sentence("Promise 2: nights: 1 to 9");
        HutBookings hut = new HutBookings();
        due.is("no nights", hut.book(0, 0, 1), BAD_VALUE);
        due.is("10 nights", hut.book(0, 10, 1), BAD_VALUE);
        due.is("less than none", hut.book(0, Integer.MIN_VALUE, 1), BAD_VALUE);
        due.is("far too many", hut.book(0, Integer.MAX_VALUE, 1), BAD_VALUE);
        due.is("none came", hut.count(1), 0);
        due.is("one night", hut.book(0, 1, 1), 0);
        due.is("nine nights", hut.book(0, 9, 1), 1);
        due.is("nine", hut.booking(1, 2), 9);
    }

    private static void persons() {
        due.sentence("Promise 2: persons: 1 to 9");
        HutBookings hut = new HutBookings();
        due.is("nobody", hut.book(0, 1, 0), BAD_VALUE);
        due.is("10 persons", hut.book(0, 1, 10), BAD_VALUE);
        due.is("less than none", hut.book(0, 1, Integer.MIN_VALUE), BAD_VALUE);
        due.is("far too many", hut.book(0, 1, Integer.MAX_VALUE), BAD_VALUE);
        due.is("none came", hut.count(1), 0);
        due.is("one person", hut.book(0, 1, 1), 0);
        due.is("nine persons", hut.book(0, 1, 9), 1);
        due.is("nine", hut.booking(1, 3), 9);
        HutBookings small = new HutBookings();
        small.set(0, 5);
        due.is("10 persons are a wrong value first", small.book(0, 1, 10), BAD_VALUE);
        due.is("nine have no beds", small.book(0, 1, 9), NOT_POSSIBLE);
    }

    private static void inOneOfItsNights() {
        due.sentence("Promise 2: NOT_POSSIBLE if in one of its nights the persons are more than the beds left");
        HutBookings hut = new HutBookings();
        hut.book(10, 1, 7);
        due.is("in its first night", hut.book(10, 3, 4), NOT_POSSIBLE);
        due.is("in the one between", hut.book(9, 3, 4), NOT_POSSIBLE);
        due.is("in its last night", hut.book(8, 3, 4), NOT_POSSIBLE);
        due.is("one state", hut.count(23), 1);
        due.is("up to the night before", hut.book(7, 3, 4), 1);
        due.is("from the night behind on", hut.book(11, 3, 4), 2);
        due.is("just as many as are left", hut.book(9, 3, 3), 3);
        due.is("one more", hut.book(10, 1, 1), NOT_POSSIBLE);
        due.is("the night before has three", hut.book(9, 1, 4), NOT_POSSIBLE);
        due.is("just those three", hut.book(9, 1, 3), 4);
    }

    private static void asManyDaysAway() {
        due.sentence("Promise 4: given back if the arrival is as many days away as the notice, or more");
        HutBookings hut = new HutBookings();
        hut.book(2, 2, 1);
        hut.book(3, 2, 1);
        hut.book(4, 2, 1);
        due.is("a day less", hut.cancel(0), 0);
        due.is("it is kept", hut.coins(2), 10);
        due.is("as many", hut.cancel(1), 10);
        due.is("a day more", hut.cancel(2), 10);
        due.is("these are not kept", hut.coins(2), 10);
        due.is("the hut has what it kept", hut.coins(0), 10);
        due.is("none is held", hut.coins(1), 0);
        HutBookings later = new HutBookings();
        later.book(22, 1, 1);
        later.book(23, 1, 1);
        later.book(24, 1, 1);
        later.pass(20);
        due.is("a day less, on the day 20", later.cancel(0), 0);
        due.is("as many, on the day 20", later.cancel(1), 5);
        due.is("a day more, on the day 20", later.cancel(2), 5);
        due.is("one is kept", later.coins(2), 5);
    }

    private static void cancelOfWhoShouldHaveArrived() {
        due.sentence("Promise 4: whose day of arrival is past: its way up was closed");
        HutBookings hut = new HutBookings();
        hut.set(4, 30);
        hut.book(0, 9, 1);
        hut.weather(0, 0, 1);
        hut.weather(1, 1, 3);
        hut.pass(2);
        due.is("it did not come yet", hut.booking(0, 0), 0);
        due.is("given back", hut.cancel(0), 45);
    }

    private static void wayUpClosedOnTheDayOfArrival() {
        due.sentence("Promise 4: or if the way up is closed on the day of arrival; otherwise it is kept");
        for (int weather = 0; weather < 8; weather++) {
            HutBookings hut = new HutBookings();
            hut.book(1, 2, 1);
            hut.weather(0, 0, 7);
            hut.weather(2, 2, 7);
            if (weather > 0) {
                due.is("weather", hut.weather(1, 1, weather), 1);
            }
            int back = weather % 2 == 1 ? 10 : 0;
            due.is("refund in the weather " + weather, hut.refund(0), back);
            due.is("cancel in the weather " + weather, hut.cancel(0), back);
            due.is("kept", hut.coins(2), 10 - back);
            due.is("had", hut.coins(0), 10 - back);
        }
    }

    private static void cancelUnknown() {
        due.sentence("Promise 4: booking: a booking; UNKNOWN");
        HutBookings hut = new HutBookings();
        due.is("none came", hut.cancel(0), UNKNOWN);
        hut.book(5, 1, 1);
        due.is("-1", hut.cancel(-1), UNKNOWN);
        due.is("one too many", hut.cancel(1), UNKNOWN);
        due.is("far too many", hut.cancel(Integer.MAX_VALUE), UNKNOWN);
        due.is("far too few", hut.cancel(Integer.MIN_VALUE), UNKNOWN);
        due.is("the last one", hut.cancel(0), 5);
        HutBookings all = eighty();
        due.is("the 81st", all.cancel(80), UNKNOWN);
        due.is("the 80th", all.cancel(79), 45);
    }

    private static void cancelNotBooked() {
        due.sentence("Promise 4: NOT_POSSIBLE if it is not booked");
        HutBookings hut = oneOfEach();
        int states = hut.count(23);
        due.is("there", hut.cancel(1), NOT_POSSIBLE);
        due.is("gone", hut.cancel(2), NOT_POSSIBLE);
        due.is("cancelled", hut.cancel(3), NOT_POSSIBLE);
        due.is("turned away", hut.cancel(4), NOT_POSSIBLE);
        due.is("states", hut.count(23), states);
        due.is("booked", hut.cancel(0), 5);
        due.is("booked no more", hut.cancel(0), NOT_POSSIBLE);
    }

    private static void extendUnknown() {
        due.sentence("Promise 5: booking: a booking; UNKNOWN");
        HutBookings hut = new HutBookings();
        due.is("none came", hut.extend(0, 1), UNKNOWN);
        hut.book(0, 1, 1);
        hut.pass(1);
        due.is("-1", hut.extend(-1, 1), UNKNOWN);
        due.is("one too many", hut.extend(1, 1), UNKNOWN);
        due.is("far too many", hut.extend(Integer.MAX_VALUE, 1), UNKNOWN);
        due.is("unknown comes before a wrong value", hut.extend(1, 0), UNKNOWN);
        due.is("the last one", hut.extend(0, 1), 2);
    }

    private static void extendNights() {
        due.sentence("Promise 5: nights: 1 to 9; BAD_VALUE");
        HutBookings hut = new HutBookings();
        hut.book(0, 1, 1);
        hut.book(9, 1, 1);
        hut.pass(1);
        due.is("no nights", hut.extend(0, 0), BAD_VALUE);
        due.is("10 nights", hut.extend(0, 10), BAD_VALUE);
        due.is("less than none", hut.extend(0, -1), BAD_VALUE);
        due.is("far too many", hut.extend(0, Integer.MAX_VALUE), BAD_VALUE);
        due.is("a wrong value comes before not there", hut.extend(1, 10), BAD_VALUE);
        due.is("9 nights are no wrong value", hut.extend(0, 9), NOT_POSSIBLE);
        due.is("its nights", hut.booking(0, 2), 1);
        due.is("8 nights", hut.extend(0, 8), 9);
        due.is("its deposit stays", hut.booking(0, 7), 5);
        due.is("its nights then", hut.booking(0, 2), 9);
    }

    private static void extendNotThere() {
        due.sentence("Promise 5: NOT_POSSIBLE if it is not there");
        HutBookings hut = oneOfEach();
        due.is("booked", hut.extend(0, 1), NOT_POSSIBLE);
        due.is("gone", hut.extend(2, 1), NOT_POSSIBLE);
        due.is("cancelled", hut.extend(3, 1), NOT_POSSIBLE);
        due.is("turned away", hut.extend(4, 1), NOT_POSSIBLE);
        due.is("there", hut.extend(1, 1), 5);
    }

    private static void extendEndEarlierThanNow() {
        due.sentence("Promise 5: NOT_POSSIBLE if its end is earlier than the day of now");
        HutBookings hut = new HutBookings();
        hut.book(0, 1, 2);
        hut.book(0, 2, 2);
        hut.book(0, 3, 2);
        hut.weather(1, 2, 2);
        hut.pass(2);
        due.is("its end was yesterday", hut.extend(0, 1), NOT_POSSIBLE);
        due.is("enough nights to be in time", hut.extend(0, 3), NOT_POSSIBLE);
        due.is("its end is today", hut.extend(1, 1), 3);
        due.is("its end is tomorrow", hut.extend(2, 1), 4);
        due.is("stranded still", hut.booking(0, 6), 1);
        due.is("stranded no more", hut.booking(1, 6), 0);
    }

    private static void extendMoreThanNine() {
        due.sentence("Promise 5: NOT_POSSIBLE if it would have more than 9 nights");
        HutBookings hut = new HutBookings();
        hut.book(0, 7, 1);
        hut.book(0, 9, 1);
        hut.pass(1);
        due.is("10 nights", hut.extend(0, 3), NOT_POSSIBLE);
        due.is("one more than nine", hut.extend(1, 1), NOT_POSSIBLE);
        due.is("9 nights", hut.extend(0, 2), 9);
        due.is("10 nights", hut.extend(0, 1), NOT_POSSIBLE);
    }

    private static void extendBedsWanting() {
        due.sentence("Promise 5: or if beds are wanting in one of the nights that come in addition");
        HutBookings hut = new HutBookings();
        hut.book(0, 2, 4);
        hut.book(0, 2, 6);
        hut.book(3, 1, 7);
        hut.book(5, 1, 6);
        hut.pass(1);
        due.is("in the last one in addition", hut.extend(0, 2), NOT_POSSIBLE);
        due.is("its own nights do not count", hut.extend(0, 1), 3);
        due.is("in the first one in addition", hut.extend(0, 1), NOT_POSSIBLE);
        due.is("in the first one of two", hut.extend(0, 2), NOT_POSSIBLE);
        hut.cancel(2);
        due.is("just as many as are left", hut.extend(0, 3), 6);
        due.is("none left", hut.day(5, 1), 0);
        HutBookings one = new HutBookings();
        one.book(0, 2, 4);
        one.book(2, 1, 7);
        one.pass(1);
        due.is("one bed is wanting", one.extend(0, 1), NOT_POSSIBLE);
        due.is("its end", one.booking(0, 4), 2);
    }

    private static void bookingUnknown() {
        due.sentence("Promise 18: UNKNOWN; BAD_VALUE");
        HutBookings hut = new HutBookings();
        due.is("none came", hut.booking(0, 0), UNKNOWN);
        hut.book(5, 1, 1);
        due.is("-1", hut.booking(-1, 0), UNKNOWN);
        due.is("one too many", hut.booking(1, 0), UNKNOWN);
        due.is("far too many", hut.booking(Integer.MAX_VALUE, 0), UNKNOWN);
        due.is("far too few", hut.booking(Integer.MIN_VALUE, 0), UNKNOWN);
        due.is("unknown comes first", hut.booking(1, 9), UNKNOWN);
        due.is("the last one", hut.booking(0, 1), 5);
        HutBookings all = eighty();
        due.is("the 80th", all.booking(79, 1), 79);
        due.is("the 81st", all.booking(80, 1), UNKNOWN);
    }

    private static void bookingWhat() {
        due.sentence("Promise 18: what: 0 to 8");
        HutBookings hut = new HutBookings();
        hut.book(5, 2, 3);
        due.is("what -1", hut.booking(0, -1), BAD_VALUE);
        due.is("what 9", hut.booking(0, 9), BAD_VALUE);
        due.is("far too little", hut.booking(0, Integer.MIN_VALUE), BAD_VALUE);
        due.is("far too much", hut.booking(0, Integer.MAX_VALUE), BAD_VALUE);
        int[] told = {0, 5, 2, 3, 7, 0, 0, 30, NONE};
        for (int what = 0; what < told.length; what++) {
            due.is("what " + what, hut.booking(0, what), told[what]);
        }
        hut.cancel(0);
        due.is("how it is when cancelled", hut.booking(0, 0), 3);
        for (int what = 1; what < told.length; what++) {
            due.is("what " + what + " when cancelled", hut.booking(0, what), told[what]);
        }
    }

    private static void bookingNotCome() {
        due.sentence("Promise 18: 8 for the day on which it came (NONE if it did not)");
        HutBookings hut = oneOfEach();
        due.is("booked", hut.booking(0, 8), NONE);
        due.is("there, came on the day 0", hut.booking(1, 8), 0);
        due.is("gone, came on the day 0", hut.booking(2, 8), 0);
        due.is("cancelled", hut.booking(3, 8), NONE);
        due.is("turned away", hut.booking(4, 8), NONE);
        HutBookings late = new HutBookings();
        late.book(0, 5, 1);
        late.weather(0, 1, 1);
        late.pass(3);
        due.is("came two days late", late.booking(0, 8), 2);
        due.is("slept one night", late.booking(0, 5), 1);
    }

    private static void bookingStranded() {
        due.sentence("Promise 18: 6: there, with an end of the day of now or earlier");
        HutBookings hut = new HutBookings();
        hut.book(0, 1, 1);
        hut.book(0, 2, 1);
        hut.book(0, 3, 1);
        hut.book(1, 1, 1);
        hut.weather(1, 1, 3);
        hut.weather(2, 2, 2);
        hut.pass(2);
        due.is("an end of yesterday", hut.booking(0, 6), 1);
        due.is("an end of today", hut.booking(1, 6), 1);
        due.is("an end of tomorrow", hut.booking(2, 6), 0);
        due.is("an end of today, not there", hut.booking(3, 6), 0);
        due.is("it is booked", hut.booking(3, 0), 0);
    }

    private static void bookingStrandedByWeather() {
        due.sentence("Promise 18: 6: while the way down of the day of now is closed");
        for (int weather = 0; weather < 8; weather++) {
            HutBookings hut = new HutBookings();
            hut.book(0, 1, 1);
            hut.weather(2, 2, 7);
            if (weather > 0) {
                hut.weather(1, 1, weather);
            }
            hut.pass(1);
            boolean closed = weather == 2 || weather == 3 || weather == 6 || weather == 7;
            due.is("stranded in the weather " + weather, hut.booking(0, 6), closed ? 1 : 0);
        }
    }

    private static void refundIsWhatCancelGives() {
        due.sentence("Promise 25: UNKNOWN; NOT_POSSIBLE if it is not booked");
        HutBookings empty = new HutBookings();
        due.is("none came", empty.refund(0), UNKNOWN);
        HutBookings hut = oneOfEach();
        due.is("-1", hut.refund(-1), UNKNOWN);
        due.is("one too many", hut.refund(5), UNKNOWN);
        due.is("far too many", hut.refund(Integer.MAX_VALUE), UNKNOWN);
        due.is("there", hut.refund(1), NOT_POSSIBLE);
        due.is("gone", hut.refund(2), NOT_POSSIBLE);
        due.is("cancelled", hut.refund(3), NOT_POSSIBLE);
        due.is("turned away", hut.refund(4), NOT_POSSIBLE);
        due.is("booked", hut.refund(0), 5);
        due.is("it is booked still", hut.booking(0, 0), 0);
        due.sentence("Promise 25: what cancelling would give back: the edge of the notice");
        HutBookings notice = new HutBookings();
        notice.book(2, 1, 1);
        notice.book(3, 1, 1);
        due.is("a day less", notice.refund(0), 0);
        due.is("as many days", notice.refund(1), 5);
        notice.set(4, 4);
        due.is("of a longer notice", notice.refund(1), 0);
    }
}
