/** Promises 1 (a new object), 11 (set), 22 (count) and 23 (coins). */
public final class SettingsTest {
    private static final int BAD_VALUE = HutBookings.BAD_VALUE;
    private static final int NOT_POSSIBLE = HutBookings.NOT_POSSIBLE;
    private static final int NONE = HutBookings.NONE;
    private static final int[] FIRST = {10, 4, 20, 5, 3, 4, 12, 20, 3, 100};
    private static final int[] LEAST = {1, 0, 0, 0, 0, 1, 0, 0, 0, 0};
    private static final int[] MOST = {40, 20, 99, 99, 30, 30, 50, 99, 20, 999};

    private static final Due due = new Due("SettingsTest");

    public static void main(String[] args) {
        aNewHutIsEmpty();
        objectsAreApart();
        setTakesItsRanges();
        setKeepsTheBedsThatAreTaken();
        countTells();
        countTellsOfFlightsAndFood();
        coinsTell();
        coinsOfADepositThatIsMore();
        due.end();
    }

    private static void aNewHutIsEmpty() {
        HutBookings hut = new HutBookings();
        for (int what = 0; what < 25; what++) {
            due.is("count(" + what + ")", hut.count(what), 0);
        }
        for (int which = 0; which < 10; which++) {
            due.is("setting " + which, hut.count(25 + which), FIRST[which]);
        }
        for (int what = 0; what < 4; what++) {
            due.is("coins(" + what + ")", hut.coins(what), 0);
        }
        for (int day = 0; day < 1000; day += 37) {
            due.is("weather", hut.day(day, 2), 0);
            due.is("left", hut.day(day, 1), 10);
        }
        due.is("fresh", hut.fresh(0, 0), NONE);
        due.is("waiting", hut.waiting(0, 0), NONE);
        due.is("undo", hut.undo(), NONE);
        due.is("restore", hut.restore(), NONE);
    }

    private static void objectsAreApart() {
        HutBookings one = new HutBookings();
        HutBookings other = new HutBookings();
        one.book(0, 1, 1);
        one.set(2, 5);
        one.type('0');
        one.keep();
        due.is("bookings", other.count(1), 0);
        due.is("price", other.count(27), 20);
        due.is("text", other.count(24), 0);
        due.is("snapshot", other.restore(), NONE);
    }

    private static void setTakesItsRanges() {
        HutBookings hut = new HutBookings();
        due.is("which -1", hut.set(-1, 1), BAD_VALUE);
        due.is("which 10", hut.set(10, 1), BAD_VALUE);
        for (int which = 0; which < 10; which++) {
            due.is("too little " + which, hut.set(which, LEAST[which] - 1), BAD_VALUE);
            due.is("too much " + which, hut.set(which, MOST[which] + 1), BAD_VALUE);
            due.is("as it is " + which, hut.set(which, FIRST[which]), NONE);
        }
        due.is("no states", hut.count(23), 0);
        for (int which = 0; which < 10; which++) {
            due.is("least " + which, hut.set(which, LEAST[which]), FIRST[which]);
            due.is("told", hut.count(25 + which), LEAST[which]);
            due.is("most " + which, hut.set(which, MOST[which]), LEAST[which]);
            due.is("told", hut.count(25 + which), MOST[which]);
        }
        due.is("states", hut.count(23), 4);
    }

    private static void setKeepsTheBedsThatAreTaken() {
        HutBookings hut = new HutBookings();
        hut.book(0, 2, 8);
        hut.book(1, 2, 1);
        hut.book(899, 9, 6);
        due.is("nine are taken", hut.set(0, 8), NOT_POSSIBLE);
        due.is("just nine", hut.set(0, 9), 10);
        due.is("as it is", hut.set(0, 9), NONE);
        hut.pass(2);
        due.is("only nights from now on count", hut.set(0, 5), NOT_POSSIBLE);
        due.is("six", hut.set(0, 6), 9);
        due.is("mattresses are free to set", hut.set(1, 0), 4);
        hut.cancel(2);
        hut.pass(1);
        due.is("one bed", hut.set(0, 1), 6);
    }

    private static void countTells() {
        HutBookings hut = new HutBookings();
        hut.set(0, 4);
        hut.book(0, 2, 3);
        hut.book(0, 1, 1);
        hut.book(1, 1, 1);
        hut.book(5, 1, 2);
        hut.book(6, 1, 2);
        hut.weather(1, 1, 2);
        hut.cancel(4);
        due.is("booked", hut.count(2), 4);
        due.is("cancelled", hut.count(5), 1);
        hut.pass(2);
        due.is("now", hut.count(0), 2);
        due.is("bookings", hut.count(1), 5);
        due.is("booked", hut.count(2), 1);
        due.is("there", hut.count(3), 3);
        due.is("gone", hut.count(4), 0);
        due.is("turned away", hut.count(6), 0);
        due.is("persons", hut.count(7), 5);
        due.is("on mattresses", hut.count(8), 1);
        due.is("hungry", hut.count(19), 9);
        due.is("stranded", hut.count(20), 1);
        due.is("slept", hut.count(21), 9);
        due.is("states", hut.count(23), 4);
        hut.type('x');
        due.is("text", hut.count(24), 1);
        hut.pass(1);
        due.is("gone", hut.count(4), 3);
        due.is("on mattresses", hut.count(8), 0);
        due.is("what -1", hut.count(-1), BAD_VALUE);
        due.is("what 35", hut.count(35), BAD_VALUE);
    }

    private static void countTellsOfFlightsAndFood() {
        HutBookings hut = new HutBookings();
        hut.set(5, 1);
        hut.order(0, 15);
        hut.order(1, 30);
        due.is("orders", hut.count(11), 2);
        due.is("portions that wait", hut.count(12), 45);
        due.is("not called", hut.count(13), 0);
        hut.flight(true);
        due.is("called", hut.count(13), 1);
        hut.book(0, 1, 2);
        hut.pass(1);
        due.is("fresh", hut.count(9), 13);
        due.is("dry", hut.count(10), 17);
        due.is("orders", hut.count(11), 1);
        due.is("portions that wait", hut.count(12), 13);
        due.is("not called any more", hut.count(13), 0);
        due.is("flights", hut.count(14), 1);
        due.is("taken down", hut.count(15), 0);
        due.is("brought", hut.count(16), 32);
        due.is("eaten", hut.count(17), 2);
        hut.pass(1);
        due.is("fresh", hut.count(9), 0);
        due.is("spoilt", hut.count(18), 13);
        due.is("brought", hut.count(16), 44);
    }

    private static void coinsTell() {
        HutBookings hut = new HutBookings();
        hut.book(0, 2, 3);
        hut.book(1, 1, 2);
        hut.book(9, 1, 4);
        due.is("all deposits", hut.coins(0), 60);
        due.is("held", hut.coins(1), 60);
        hut.cancel(1);
        due.is("kept", hut.coins(2), 10);
        due.is("held", hut.coins(1), 50);
        hut.flight(true);
        hut.pass(1);
        due.is("the flight", hut.coins(3), 100);
        due.is("less the flight", hut.coins(0), -40);
        hut.cancel(2);
        due.is("less what was given back", hut.coins(0), -60);
        due.is("one there is held", hut.coins(1), 30);
        hut.pass(2);
        due.is("and what was paid", hut.coins(0), 30);
        due.is("none is held", hut.coins(1), 0);
        due.is("what -1", hut.coins(-1), BAD_VALUE);
        due.is("what 4", hut.coins(4), BAD_VALUE);
    }

    private static void coinsOfADepositThatIsMore() {
        HutBookings hut = new HutBookings();
        hut.set(3, 50);
        hut.book(0, 1, 2);
        due.is("deposit", hut.coins(0), 100);
        hut.pass(2);
        due.is("the rest was given back", hut.coins(0), 40);
        due.is("it was not kept", hut.coins(2), 0);
    }
}
