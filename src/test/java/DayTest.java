/** Promise 10 (pass) and the eight steps of a day. */
public final class DayTest {
    private static final int BAD_VALUE = HutBookings.BAD_VALUE;
    private static final int FULL = HutBookings.FULL;
    private static final int NONE = HutBookings.NONE;

    private static final Due due = new Due("DayTest");

    public static void main(String[] args) {
        passTakesItsRanges();
        freshFoodSpoils();
        freshFoodKeepsThirtyDays();
        groupsLeaveAndPay();
        lateGroupsPayTheirOwnNights();
        strandedNightsAreNotPaid();
        lateBookingsAreTurnedAway();
        groupsComeByNumbers();
        groupsLeaveBeforeOthersCome();
        portionsAreCarriedUp();
        flightsBringPortions();
        flightsTakeGroupsDown();
        flightsWaitForTheWind();
        flightsFlyWhereNobodyWalks();
        earliestFoodIsEatenFirst();
        due.end();
    }

    private static void passTakesItsRanges() {
        HutBookings hut = new HutBookings();
        due.is("no days", hut.pass(0), BAD_VALUE);
        due.is("less", hut.pass(Integer.MIN_VALUE), BAD_VALUE);
        due.is("31 days", hut.pass(31), BAD_VALUE);
        due.is("no states", hut.count(23), 0);
        for (int i = 1; i <= 33; i++) {
            due.is("30 days", hut.pass(30), 30 * i);
        }
        due.is("one state a call", hut.count(23), 4);
        due.is("too far", hut.pass(10), FULL);
        due.is("a wrong value comes first", hut.pass(31), BAD_VALUE);
        due.is("the last day", hut.pass(9), 999);
        due.is("no further", hut.pass(1), FULL);
        due.is("still", hut.count(0), 999);
        due.is("undo", hut.undo(), 3);
        due.is("before", hut.count(0), 990);
    }

    private static void freshFoodSpoils() {
        HutBookings hut = new HutBookings();
        hut.order(0, 12);
        hut.order(1, 3);
        hut.pass(4);
        due.is("fresh yet", hut.count(9), 12);
        due.is("none spoilt", hut.count(18), 0);
        hut.pass(1);
        due.is("none fresh", hut.count(9), 0);
        due.is("spoilt", hut.count(18), 12);
        due.is("dry food keeps", hut.count(10), 3);
        HutBookings other = new HutBookings();
        other.set(5, 1);
        other.order(0, 24);
        other.pass(2);
        due.is("each day's is thrown away on the next", other.count(18), 12);
        due.is("of the last day", other.fresh(0, 0), 1);
        other.set(5, 30);
        other.pass(5);
        due.is("it keeps longer now", other.count(9), 12);
        other.set(5, 6);
        other.pass(1);
        due.is("older than that", other.count(9), 0);
    }

    private static void freshFoodKeepsThirtyDays() {
        HutBookings hut = new HutBookings();
        hut.set(5, 30);
        for (int i = 0; i < 4; i++) {
            hut.order(0, 99);
        }
        hut.pass(30);
        due.is("from the first day", hut.fresh(0, 0), 0);
        due.is("to the last", hut.fresh(29, 0), 29);
        due.is("and none more", hut.fresh(30, 0), NONE);
        due.is("portions", hut.count(9), 360);
        hut.pass(1);
        due.is("the first is gone", hut.fresh(0, 0), 1);
        due.is("spoilt", hut.count(18), 12);
        due.is("portions", hut.fresh(29, 1), 12);
        hut.book(31, 1, 3);
        hut.pass(1);
        due.is("of those that keep for just a day more", hut.fresh(0, 0), 2);
        due.is("they are eaten", hut.fresh(0, 1), 9);
    }

    private static void groupsLeaveAndPay() {
        HutBookings hut = new HutBookings();
        hut.book(0, 2, 3);
        hut.pass(2);
        due.is("there until its end", hut.booking(0, 0), 1);
        hut.set(2, 31);
        hut.pass(1);
        due.is("gone", hut.booking(0, 0), 2);
        due.is("the price of that day", hut.coins(0), 186);
        due.is("slept", hut.count(21), 6);
        due.is("none stranded", hut.count(20), 0);
    }

    private static void lateGroupsPayTheirOwnNights() {
        HutBookings hut = new HutBookings();
        hut.weather(0, 0, 1);
        hut.book(0, 3, 2);
        hut.pass(1);
        due.is("it could not come", hut.booking(0, 0), 0);
        hut.pass(3);
        due.is("gone", hut.booking(0, 0), 2);
        due.is("two nights were paid", hut.coins(0), 80);
    }

    private static void strandedNightsAreNotPaid() {
        HutBookings hut = new HutBookings();
        hut.book(0, 1, 2);
        hut.weather(1, 3, 2);
        hut.pass(4);
        due.is("there", hut.booking(0, 0), 1);
        due.is("slept", hut.booking(0, 5), 4);
        due.is("stranded", hut.count(20), 6);
        hut.pass(1);
        due.is("gone", hut.booking(0, 0), 2);
        due.is("one night was paid", hut.coins(0), 40);
        due.is("slept by persons", hut.count(21), 8);
    }

    private static void lateBookingsAreTurnedAway() {
        HutBookings hut = new HutBookings();
        hut.book(0, 2, 3);
        hut.weather(0, 1, 1);
        hut.pass(2);
        due.is("booked yet", hut.booking(0, 0), 0);
        due.is("its beds are held", hut.day(1, 0), 3);
        hut.pass(1);
        due.is("turned away", hut.booking(0, 0), 4);
        due.is("persons", hut.count(22), 3);
        due.is("the deposit was given back", hut.coins(0), 0);
        due.is("it was not kept", hut.coins(2), 0);
        due.is("it never came", hut.booking(0, 8), NONE);
        HutBookings other = new HutBookings();
        other.book(0, 2, 3);
        other.weather(0, 5, 1);
        other.pass(3);
        due.is("turned away while the way is closed", other.booking(0, 0), 4);
    }

    private static void groupsComeByNumbers() {
        HutBookings hut = new HutBookings();
        hut.set(0, 4);
        hut.set(1, 2);
        hut.book(0, 1, 4);
        hut.book(1, 1, 3);
        hut.book(1, 2, 1);
        hut.weather(1, 1, 2);
        hut.pass(2);
        due.is("stranded", hut.booking(0, 0), 1);
        due.is("too many", hut.booking(1, 0), 4);
        due.is("there is room for one", hut.booking(2, 0), 1);
        due.is("on a mattress", hut.count(8), 1);
        due.is("turned away", hut.count(22), 3);
        HutBookings full = new HutBookings();
        full.set(0, 4);
        full.set(1, 2);
        full.book(0, 1, 4);
        full.book(1, 1, 2);
        full.weather(1, 1, 2);
        full.pass(2);
        due.is("just the mattresses", full.booking(1, 0), 1);
        due.is("both of them", full.count(8), 2);
        HutBookings order = new HutBookings();
        order.set(0, 6);
        order.set(1, 0);
        order.book(0, 1, 3);
        order.book(3, 1, 2);
        order.book(2, 3, 2);
        order.weather(1, 3, 2);
        order.weather(2, 2, 3);
        order.pass(4);
        due.is("the lower number comes", order.booking(1, 8), 3);
        due.is("the one that waited finds no room", order.booking(2, 0), 4);
    }

    private static void groupsLeaveBeforeOthersCome() {
        HutBookings hut = new HutBookings();
        hut.set(0, 4);
        hut.set(1, 0);
        hut.book(0, 1, 4);
        hut.book(1, 1, 4);
        hut.pass(2);
        due.is("the first is gone", hut.booking(0, 0), 2);
        due.is("the second is there", hut.booking(1, 0), 1);
    }

    private static void portionsAreCarriedUp() {
        HutBookings hut = new HutBookings();
        hut.order(0, 5);
        hut.order(1, 4);
        hut.order(0, 9);
        hut.weather(2, 2, 1);
        hut.pass(1);
        due.is("fresh", hut.count(9), 8);
        due.is("dry", hut.count(10), 4);
        due.is("orders", hut.count(11), 1);
        due.is("left", hut.waiting(0, 1), 6);
        hut.set(6, 2);
        hut.pass(1);
        due.is("two more", hut.count(16), 14);
        hut.pass(1);
        due.is("none while the way is closed", hut.count(16), 14);
        hut.set(6, 0);
        hut.pass(1);
        due.is("nothing is carried", hut.count(16), 14);
        hut.set(6, 50);
        hut.pass(1);
        due.is("the rest", hut.count(16), 18);
        due.is("no orders", hut.count(11), 0);
        HutBookings many = new HutBookings();
        for (int i = 0; i < 12; i++) {
            many.order(i % 2, 1);
        }
        many.pass(1);
        due.is("twelve orders on one day", many.count(11), 0);
        due.is("fresh", many.fresh(0, 1), 6);
        due.is("dry", many.count(10), 6);
    }

    private static void flightsBringPortions() {
        HutBookings hut = new HutBookings();
        hut.order(0, 40);
        hut.flight(true);
        hut.pass(1);
        due.is("carried and flown on one day", hut.fresh(0, 1), 32);
        due.is("one day", hut.fresh(1, 1), NONE);
        due.is("left", hut.waiting(0, 1), 8);
        hut.pass(1);
        due.is("no flight more", hut.count(14), 1);
        due.is("carried", hut.fresh(1, 1), 8);
        hut.set(7, 0);
        hut.order(1, 20);
        hut.flight(true);
        hut.pass(1);
        due.is("a flight that brings none", hut.count(10), 12);
    }

    private static void flightsTakeGroupsDown() {
        HutBookings hut = new HutBookings();
        hut.set(8, 4);
        hut.set(9, 70);
        hut.book(0, 1, 1);
        hut.book(0, 1, 4);
        hut.book(0, 2, 1);
        hut.book(0, 1, 2);
        hut.book(0, 1, 1);
        hut.weather(1, 5, 2);
        hut.pass(1);
        hut.flight(true);
        hut.pass(1);
        due.is("the first one", hut.booking(0, 0), 2);
        due.is("no seats for four", hut.booking(1, 0), 1);
        due.is("its end is later", hut.booking(2, 0), 1);
        due.is("two seats", hut.booking(3, 0), 2);
        due.is("the last seat", hut.booking(4, 0), 2);
        due.is("taken down", hut.count(15), 4);
        due.is("cost", hut.coins(3), 70);
        due.is("coins", hut.coins(0), 50 + 60 - 70);
        due.is("stranded", hut.count(20), 4);
        due.is("slept", hut.count(21), 9 + 5);
        hut.flight(true);
        hut.pass(1);
        due.is("the next flight", hut.booking(1, 0), 2);
        due.is("its end was in time", hut.booking(2, 0), 1);
        due.is("taken down", hut.count(15), 8);
    }

    private static void flightsWaitForTheWind() {
        HutBookings hut = new HutBookings();
        hut.weather(0, 1, 4);
        hut.flight(true);
        hut.pass(2);
        due.is("it waits", hut.count(14), 0);
        due.is("it is called", hut.count(13), 1);
        due.is("it costs nothing yet", hut.coins(3), 0);
        hut.pass(1);
        due.is("it flew", hut.count(14), 1);
        due.is("it is not called", hut.count(13), 0);
        due.is("it cost", hut.coins(3), 100);
    }

    private static void flightsFlyWhereNobodyWalks() {
        HutBookings hut = new HutBookings();
        hut.weather(0, 0, 3);
        hut.order(1, 30);
        hut.flight(true);
        hut.pass(1);
        due.is("flown in only", hut.count(10), 20);
    }

    private static void earliestFoodIsEatenFirst() {
        HutBookings hut = new HutBookings();
        hut.set(6, 3);
        hut.order(0, 6);
        hut.order(1, 3);
        hut.pass(3);
        hut.book(3, 3, 4);
        hut.pass(1);
        due.is("of the second day", hut.fresh(0, 0), 1);
        due.is("two are left", hut.fresh(0, 1), 2);
        due.is("dry", hut.count(10), 3);
        hut.pass(1);
        due.is("then the dry", hut.count(10), 1);
        due.is("no fresh", hut.count(9), 0);
        due.is("none is hungry", hut.count(19), 0);
        hut.pass(1);
        due.is("no dry", hut.count(10), 0);
        due.is("hungry", hut.count(19), 3);
        due.is("eaten", hut.count(17), 9);
    }
}
