/** Promises 19 (day), 22 (count), 23 (coins), 24 (use), 26 (firstFree) and 32 (fullest): the edges of each. */
public final class TellingEdgesTest {
    private static final int BAD_VALUE = HutBookings.BAD_VALUE;
    private static final int NONE = HutBookings.NONE;

    private static final Due due = new Due("TellingEdgesTest");

    public static void main(String[] args) {
        days();
        counts();
        uses();
        freeDays();
        fullNights();
        due.end();
    }

    private static void days() {
        dayRange();
        dayWhat();
        dayBedsLeft();
        dayArriving();
        dayEnding();
    }

    private static void counts() {
        countWhat();
        countOfEachHow();
        countOnMattresses();
        countOfFood();
        countOfText();
        countTurnedAway();
        coinsWhat();
        coinsKept();
    }

    private static void uses() {
        useRange();
        useMean();
    }

    private static void freeDays() {
        firstFreeRange();
        firstFreeFromNow();
        firstFreeUpTo899();
        firstFreeNights();
        firstFreePersons();
    }

    private static void fullNights() {
        fullestNone();
        fullestFirstOfSeveral();
        fullestFromNow();
    }

    private static HutBookings onTheDay(int day) {
        HutBookings hut = new HutBookings();
        for (int passed = 0; passed < day; passed += 30) {
            hut.pass(Math.min(30, day - passed));
        }
        due.is("now", hut.count(0), day);
        return hut;
    }

    private static void dayRange() {
        due.sentence("Promise 19: day: 0 to 999");
        HutBookings hut = new HutBookings();
        hut.weather(0, 0, 3);
        hut.weather(999, 999, 5);
        for (int what = 0; what < 5; what++) {
            due.is("day -1", hut.day(-1, what), BAD_VALUE);
            due.is("day 1000", hut.day(1000, what), BAD_VALUE);
            due.is("far too early", hut.day(Integer.MIN_VALUE, what), BAD_VALUE);
            due.is("far too late", hut.day(Integer.MAX_VALUE, what), BAD_VALUE);
        }
        due.is("weather of the day 0", hut.day(0, 2), 3);
        due.is("weather of the day 999", hut.day(999, 2), 5);
        due.is("beds left on the day 0", hut.day(0, 1), 10);
        due.is("beds left on the day 999", hut.day(999, 1), 10);
        HutBookings later = onTheDay(40);
        due.is("a day that is past", later.day(0, 1), 10);
    }

    private static void dayWhat() {
        due.sentence("Promise 19: what: 0 to 4");
        HutBookings hut = new HutBookings();
        hut.book(5, 2, 3);
        hut.book(4, 1, 2);
        hut.weather(5, 5, 6);
        due.is("what -1", hut.day(5, -1), BAD_VALUE);
        due.is("what 5", hut.day(5, 5), BAD_VALUE);
        due.is("far too little", hut.day(5, Integer.MIN_VALUE), BAD_VALUE);
        due.is("far too much", hut.day(5, Integer.MAX_VALUE), BAD_VALUE);
        int[] told = {3, 7, 6, 1, 1};
        for (int what = 0; what < told.length; what++) {
            due.is("what " + what, hut.day(5, what), told[what]);
        }
    }

    private static void dayBedsLeft() {
        due.sentence("Promise 19: 0 for the beds that are taken in its night, 1 for those that are left");
        HutBookings hut = new HutBookings();
        hut.book(5, 2, 9);
        due.is("one is left", hut.day(5, 1), 1);
        hut.book(5, 1, 1);
        due.is("all are taken", hut.day(5, 0), 10);
        due.is("none is left", hut.day(5, 1), 0);
        due.is("one is left in the second night", hut.day(6, 1), 1);
        due.is("all are left on the end", hut.day(7, 1), 10);
        due.is("all are left the night before", hut.day(4, 1), 10);
        hut.set(0, 40);
        due.is("of more beds", hut.day(5, 1), 30);
    }

    private static void dayArriving() {
        due.sentence("Promise 19: 3 for bookings that are booked and arrive on it");
        HutBookings hut = new HutBookings();
        hut.book(0, 3, 1);
        hut.book(0, 2, 1);
        hut.book(1, 3, 1);
        hut.book(9, 3, 1);
        hut.book(9, 3, 1);
        due.is("two", hut.day(0, 3), 2);
        due.is("none is told twice", hut.day(10, 3), 0);
        hut.cancel(4);
        due.is("not one cancelled", hut.day(9, 3), 1);
        hut.weather(1, 1, 1);
        hut.pass(2);
        due.is("not those who came", hut.day(0, 3), 0);
        due.is("who should have arrived", hut.day(1, 3), 1);
        due.is("not on another day", hut.day(2, 3), 0);
    }

    private static void dayEnding() {
        due.sentence("Promise 19: 4 for bookings that are booked or there and have their end on it");
        HutBookings hut = new HutBookings();
        hut.book(0, 2, 1);
        hut.book(1, 1, 1);
        hut.book(0, 1, 1);
        hut.book(899, 9, 1);
        due.is("two", hut.day(2, 4), 2);
        due.is("not in its last night", hut.day(907, 4), 0);
        due.is("the last end there can be", hut.day(908, 4), 1);
        hut.pass(2);
        due.is("those there", hut.day(2, 4), 2);
        due.is("not one gone", hut.day(1, 4), 0);
        hut.cancel(3);
        due.is("not one cancelled", hut.day(908, 4), 0);
    }

    private static void countWhat() {
        due.sentence("Promise 22: what: 0 to 34");
        HutBookings hut = new HutBookings();
        due.is("what -1", hut.count(-1), BAD_VALUE);
        due.is("what 35", hut.count(35), BAD_VALUE);
        due.is("far too little", hut.count(Integer.MIN_VALUE), BAD_VALUE);
        due.is("far too much", hut.count(Integer.MAX_VALUE), BAD_VALUE);
        due.is("what 0", hut.count(0), 0);
        due.is("what 34", hut.count(34), 100);
        for (int which = 0; which < 10; which++) {
            hut.set(which, 10 + which);
        }
        for (int which = 0; which < 10; which++) {
            due.is("what " + (25 + which), hut.count(25 + which), 10 + which);
        }
        due.is("what 24", hut.count(24), 0);
    }

    private static void countOfEachHow() {
        due.sentence("Promise 22: 1 for bookings so far, 2 to 6 for those that are booked, there, gone, ...");
        HutBookings hut = new HutBookings();
        int[] arrives = {0, 0, 0, 9, 9, 9, 9, 8, 1, 1};
        for (int i = 0; i < arrives.length; i++) {
            hut.book(arrives[i], i == 0 ? 5 : 1, 1);
        }
        hut.weather(1, 1, 1);
        hut.cancel(7);
        hut.pass(3);
        int[] told = {3, 10, 4, 1, 2, 1, 2, 1};
        for (int what = 0; what < told.length; what++) {
            due.is("what " + what, hut.count(what), told[what]);
        }
    }

    private static void countOnMattresses() {
        due.sentence("Promise 22: 8 for persons on mattresses (those there that are more than the beds)");
        for (int more = -1; more <= 1; more++) {
            HutBookings hut = new HutBookings();
            hut.set(0, 5);
            hut.book(0, 1, 4);
            hut.book(1, 1, 1 + more + 1);
            hut.weather(1, 1, 2);
            hut.pass(2);
            due.is("persons there", hut.count(7), 6 + more);
            due.is("on mattresses", hut.count(8), 1 + more);
        }
        HutBookings fewer = new HutBookings();
        fewer.set(0, 5);
        fewer.book(0, 1, 4);
        fewer.pass(1);
        due.is("one bed is left", fewer.count(8), 0);
        due.is("nobody is there", new HutBookings().count(8), 0);
    }

    private static void countOfFood() {
        due.sentence("Promise 22: 9 to 12 and 16 to 19: portions that are there, wait, were brought, eaten, spoilt");
        HutBookings hut = new HutBookings();
        hut.order(0, 15);
        hut.order(1, 30);
        due.is("wait", hut.count(11), 2);
        due.is("portions that wait", hut.count(12), 45);
        hut.book(0, 1, 2);
        hut.pass(2);
        due.is("fresh", hut.count(9), 13);
        due.is("dry", hut.count(10), 9);
        due.is("wait", hut.count(11), 1);
        due.is("portions that wait", hut.count(12), 21);
        due.is("brought", hut.count(16), 24);
        due.is("eaten", hut.count(17), 2);
        due.is("spoilt", hut.count(18), 0);
        hut.pass(3);
        due.is("spoilt", hut.count(18), 10);
        due.is("brought", hut.count(16), 45);
        due.is("none waits", hut.count(12), 0);
        due.is("hungry", hut.count(19), 0);
        hut.recall();
        due.is("what came is brought still", hut.count(16), 45);
    }

    private static void countOfText() {
        due.sentence("Promise 22: 23 for states in the history, 24 for the length of the text");
        HutBookings hut = new HutBookings();
        for (int i = 1; i <= 60; i++) {
            hut.type('?');
            due.is("length", hut.count(24), i);
        }
        due.is("no states", hut.count(23), 0);
        for (int i = 1; i <= 6; i++) {
            hut.pass(1);
            due.is("states", hut.count(23), Math.min(4, i));
        }
    }

    private static void countTurnedAway() {
        due.sentence("Promise 22: 22 for persons turned away so far");
        HutBookings hut = new HutBookings();
        hut.set(1, 0);
        hut.book(0, 1, 9);
        hut.book(1, 1, 7);
        hut.book(3, 1, 2);
        hut.book(9, 1, 4);
        hut.weather(1, 1, 2);
        hut.weather(3, 3, 1);
        hut.cancel(3);
        hut.pass(2);
        due.is("by a full hut", hut.count(22), 7);
        hut.pass(3);
        due.is("and by their end", hut.count(22), 9);
        due.is("as bookings", hut.count(6), 2);
    }

    private static void coinsWhat() {
        due.sentence("Promise 23: what: 0 to 3");
        HutBookings hut = new HutBookings();
        hut.book(0, 2, 3);
        hut.book(1, 1, 2);
        hut.cancel(1);
        hut.set(9, 1);
        hut.flight(true);
        hut.pass(1);
        due.is("what -1", hut.coins(-1), BAD_VALUE);
        due.is("what 4", hut.coins(4), BAD_VALUE);
        due.is("far too little", hut.coins(Integer.MIN_VALUE), BAD_VALUE);
        due.is("far too much", hut.coins(Integer.MAX_VALUE), BAD_VALUE);
        int[] told = {39, 30, 10, 1};
        for (int what = 0; what < told.length; what++) {
            due.is("what " + what, hut.coins(what), told[what]);
        }
    }

    private static void coinsKept() {
        due.sentence("Promise 23: 2 for deposits that were kept as bookings were cancelled");
        HutBookings hut = new HutBookings();
        due.is("none", hut.coins(2), 0);
        hut.book(2, 1, 2);
        hut.book(2, 1, 3);
        hut.book(3, 1, 4);
        hut.cancel(0);
        due.is("one", hut.coins(2), 10);
        hut.cancel(2);
        due.is("not one given back", hut.coins(2), 10);
        hut.cancel(1);
        due.is("and another", hut.coins(2), 25);
        due.is("the hut has them", hut.coins(0), 25);
    }

    private static void useRange() {
        due.sentence("Promise 24: from: 0 to 999; to: from to 999; -1.0 if an argument is out of range");
        HutBookings hut = new HutBookings();
        hut.book(0, 1, 5);
        due.isDouble("from -1", hut.use(-1, 0), -1.0);
        due.isDouble("to 1000", hut.use(0, 1000), -1.0);
        due.isDouble("from 1000", hut.use(1000, 1000), -1.0);
        due.isDouble("to a day before from", hut.use(1, 0), -1.0);
        due.isDouble("far too early", hut.use(Integer.MIN_VALUE, 5), -1.0);
        due.isDouble("far too late", hut.use(0, Integer.MAX_VALUE), -1.0);
        due.isDouble("far before from", hut.use(0, Integer.MIN_VALUE), -1.0);
        due.isDouble("far from", hut.use(Integer.MAX_VALUE, Integer.MAX_VALUE), -1.0);
        due.isDouble("the day 0", hut.use(0, 0), 0.5);
        due.isDouble("the day 999", hut.use(999, 999), 0.0);
        due.isDouble("all days", hut.use(0, 999), 5.0 / 10000.0);
        HutBookings later = onTheDay(31);
        due.isDouble("days that are past", later.use(0, 1), 0.0);
    }

    private static void useMean() {
        due.sentence("Promise 24: their sum divided by (how many days, times the beds)");
        HutBookings hut = new HutBookings();
        hut.set(0, 3);
        hut.book(4, 2, 2);
        hut.book(5, 9, 1);
        due.isDouble("one day", hut.use(4, 4), 2.0 / 3.0);
        due.isDouble("two days", hut.use(4, 5), 5.0 / 6.0);
        due.isDouble("a full day", hut.use(5, 5), 1.0);
        due.isDouble("the day before too", hut.use(3, 5), 5.0 / 9.0);
        due.isDouble("to the last night", hut.use(5, 13), 11.0 / 27.0);
        due.isDouble("to the end", hut.use(5, 14), 11.0 / 30.0);
        due.isDouble("the end", hut.use(14, 14), 0.0);
        due.isDouble("within a booking", hut.use(7, 9), 3.0 / 9.0);
        hut.set(0, 40);
        due.isDouble("of more beds", hut.use(5, 5), 3.0 / 40.0);
        hut.cancel(0);
        due.isDouble("not of one cancelled", hut.use(4, 5), 1.0 / 80.0);
        HutBookings one = new HutBookings();
        one.set(0, 1);
        one.book(0, 1, 1);
        due.isDouble("the only bed", one.use(0, 0), 1.0);
        due.isDouble("in one of three nights", one.use(0, 2), 1.0 / 3.0);
    }

    private static void firstFreeRange() {
        due.sentence("Promise 26: nights: 1 to 9; persons: 1 to 9");
        HutBookings hut = new HutBookings();
        due.is("no nights", hut.firstFree(0, 1), BAD_VALUE);
        due.is("10 nights", hut.firstFree(10, 1), BAD_VALUE);
        due.is("nobody", hut.firstFree(1, 0), BAD_VALUE);
        due.is("10 persons", hut.firstFree(1, 10), BAD_VALUE);
        due.is("far too few nights", hut.firstFree(Integer.MIN_VALUE, 1), BAD_VALUE);
        due.is("far too many nights", hut.firstFree(Integer.MAX_VALUE, 1), BAD_VALUE);
        due.is("far too few persons", hut.firstFree(1, Integer.MIN_VALUE), BAD_VALUE);
        due.is("far too many persons", hut.firstFree(1, Integer.MAX_VALUE), BAD_VALUE);
        due.is("the least", hut.firstFree(1, 1), 0);
        due.is("the most", hut.firstFree(9, 9), 0);
        HutBookings late = onTheDay(900);
        due.is("a wrong value is told before none", late.firstFree(10, 1), BAD_VALUE);
    }

    private static void firstFreeFromNow() {
        due.sentence("Promise 26: the first day of arrival, from the day of now on");
        HutBookings hut = onTheDay(7);
        due.is("now", hut.firstFree(9, 9), 7);
        hut.book(7, 1, 9);
        due.is("tomorrow", hut.firstFree(9, 9), 8);
        due.is("one has a bed now", hut.firstFree(9, 1), 7);
    }

    private static void firstFreeUpTo899() {
        due.sentence("Promise 26: NONE if there is none up to 899");
        for (int nights = 1; nights <= 9; nights++) {
            due.is("on the day 899", onTheDay(899).firstFree(nights, 9), 899);
            due.is("on the day 900", onTheDay(900).firstFree(nights, 1), NONE);
        }
        HutBookings hut = onTheDay(870);
        hut.set(0, 9);
        hut.book(870, 9, 9);
        hut.book(879, 9, 9);
        hut.book(888, 9, 9);
        hut.book(897, 2, 9);
        due.is("one night", hut.firstFree(1, 1), 899);
        due.is("nine nights", hut.firstFree(9, 9), 899);
        hut.book(899, 1, 9);
        due.is("not the day 900", hut.firstFree(1, 1), NONE);
        due.is("for no nights", hut.firstFree(9, 9), NONE);
        HutBookings few = new HutBookings();
        few.set(0, 8);
        due.is("more persons than beds", few.firstFree(1, 9), NONE);
        due.is("as many as beds", few.firstFree(9, 8), 0);
        due.is("on the last day", onTheDay(999).firstFree(1, 1), NONE);
    }

    private static void firstFreeNights() {
        due.sentence("Promise 26: for which beds can be booked: in each of its nights");
        HutBookings hut = new HutBookings();
        hut.book(2, 1, 9);
        hut.book(6, 1, 9);
        due.is("two before the first", hut.firstFree(2, 2), 0);
        due.is("three between", hut.firstFree(3, 2), 3);
        due.is("four behind", hut.firstFree(4, 2), 7);
        due.is("nine behind", hut.firstFree(9, 2), 7);
        due.is("one person anywhere", hut.firstFree(9, 1), 0);
        due.is("it can be booked", hut.book(3, 3, 2), 2);
        due.is("not a day earlier", hut.book(2, 3, 2), HutBookings.NOT_POSSIBLE);
    }

    private static void firstFreePersons() {
        due.sentence("Promise 26: for which beds can be booked: for so many persons");
        HutBookings hut = new HutBookings();
        for (int day = 0; day < 9; day++) {
            hut.book(day, 1, 9 - day);
        }
        for (int persons = 1; persons <= 9; persons++) {
            due.is("for " + persons, hut.firstFree(1, persons), persons - 1);
        }
        hut.cancel(4);
        due.is("a night of one cancelled is free", hut.firstFree(1, 9), 4);
    }

    private static void fullestNone() {
        due.sentence("Promise 32: NONE if none are taken");
        HutBookings hut = new HutBookings();
        due.is("at first", hut.fullest(), NONE);
        hut.book(0, 1, 1);
        due.is("one bed", hut.fullest(), 0);
        hut.pass(1);
        due.is("it is past", hut.fullest(), NONE);
        hut.book(899, 9, 1);
        due.is("far off", hut.fullest(), 899);
        hut.cancel(1);
        due.is("it is cancelled", hut.fullest(), NONE);
    }

    private static void fullestFirstOfSeveral() {
        due.sentence("Promise 32: the night with the most beds taken, of several the first one");
        HutBookings hut = new HutBookings();
        hut.book(5, 3, 4);
        due.is("the first of three", hut.fullest(), 5);
        hut.book(2, 1, 4);
        due.is("an earlier one", hut.fullest(), 2);
        hut.book(7, 2, 1);
        due.is("one more", hut.fullest(), 7);
        hut.book(899, 9, 5);
        due.is("as many, far off", hut.fullest(), 7);
        hut.book(899, 9, 1);
        due.is("more, far off", hut.fullest(), 899);
    }

    private static void fullestFromNow() {
        due.sentence("Promise 32: from that of the day of now on");
        HutBookings hut = new HutBookings();
        hut.book(0, 9, 2);
        hut.book(1, 1, 5);
        hut.pass(1);
        due.is("the night of now", hut.fullest(), 1);
        hut.pass(1);
        due.is("the one behind it", hut.fullest(), 2);
        hut.weather(9, 99, 2);
        hut.pass(7);
        due.is("who is stranded takes no bed", hut.fullest(), NONE);
    }
}
