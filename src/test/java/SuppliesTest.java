/** Promises 6 (weather), 7 (order), 8 (recall), 9 (flight), 20 (fresh) and 21 (waiting). */
public final class SuppliesTest {
    private static final int BAD_VALUE = HutBookings.BAD_VALUE;
    private static final int FULL = HutBookings.FULL;
    private static final int NONE = HutBookings.NONE;

    private static final Due due = new Due("SuppliesTest");

    public static void main(String[] args) {
        weatherCountsChanges();
        weatherTakesItsRanges();
        orderTakesItsRanges();
        orderEndsWithTwelve();
        recallTakesTheLast();
        flightIsCalledAndCalledOff();
        freshTells();
        waitingTells();
        due.end();
    }

    private static void weatherCountsChanges() {
        HutBookings hut = new HutBookings();
        due.is("three days", hut.weather(2, 4, 5), 3);
        due.is("one is so already", hut.weather(4, 6, 5), 2);
        due.is("all are so already", hut.weather(2, 6, 5), NONE);
        due.is("states", hut.count(23), 2);
        due.is("another weather", hut.weather(3, 5, 2), 3);
        due.is("before", hut.day(1, 2), 0);
        due.is("first", hut.day(2, 2), 5);
        due.is("changed", hut.day(3, 2), 2);
        due.is("last", hut.day(6, 2), 5);
        due.is("behind", hut.day(7, 2), 0);
        due.is("fair weather", hut.weather(4, 4, 0), 1);
        due.is("a thousand", hut.weather(0, 999, 7), 1000);
    }

    private static void weatherTakesItsRanges() {
        HutBookings hut = new HutBookings();
        hut.pass(3);
        due.is("yesterday", hut.weather(2, 5, 1), BAD_VALUE);
        due.is("to before from", hut.weather(5, 4, 1), BAD_VALUE);
        due.is("to 1000", hut.weather(5, 1000, 1), BAD_VALUE);
        due.is("from 1000", hut.weather(1000, 1000, 1), BAD_VALUE);
        due.is("weather -1", hut.weather(5, 5, -1), BAD_VALUE);
        due.is("weather 8", hut.weather(5, 5, 8), BAD_VALUE);
        due.is("states", hut.count(23), 1);
        due.is("today", hut.weather(3, 3, 7), 1);
        due.is("the last day", hut.weather(999, 999, 1), 1);
    }

    private static void orderTakesItsRanges() {
        HutBookings hut = new HutBookings();
        due.is("kind -1", hut.order(-1, 5), BAD_VALUE);
        due.is("kind 2", hut.order(2, 5), BAD_VALUE);
        due.is("portions 0", hut.order(0, 0), BAD_VALUE);
        due.is("portions 100", hut.order(0, 100), BAD_VALUE);
        due.is("states", hut.count(23), 0);
        due.is("one", hut.order(0, 1), 1);
        due.is("two", hut.order(1, 99), 2);
        due.is("states", hut.count(23), 2);
    }

    private static void orderEndsWithTwelve() {
        HutBookings hut = new HutBookings();
        for (int i = 1; i <= 12; i++) {
            due.is("order", hut.order(i % 2, i), i);
        }
        due.is("one too many", hut.order(0, 1), FULL);
        due.is("a wrong value comes first", hut.order(0, 0), BAD_VALUE);
        due.is("recall", hut.recall(), 12);
        due.is("room again", hut.order(0, 50), 12);
        due.is("carried up", hut.pass(2), 2);
        due.is("waiting", hut.count(11), 6);
    }

    private static void recallTakesTheLast() {
        HutBookings hut = new HutBookings();
        due.is("none", hut.recall(), NONE);
        hut.order(0, 10);
        hut.order(1, 30);
        hut.pass(1);
        due.is("what is left of it", hut.recall(), 28);
        due.is("none more", hut.recall(), NONE);
        due.is("waiting", hut.count(11), 0);
        due.is("the dry ones stay", hut.count(10), 2);
        due.is("states", hut.count(23), 4);
        due.is("undo", hut.undo(), 3);
        due.is("it waits again", hut.waiting(0, 1), 28);
        hut.order(0, 7);
        due.is("the last of two", hut.recall(), 7);
        due.is("the first stays", hut.waiting(0, 1), 28);
    }

    private static void flightIsCalledAndCalledOff() {
        HutBookings hut = new HutBookings();
        due.is("not called", hut.flight(false), NONE);
        due.is("called", hut.flight(true), 0);
        due.is("called already", hut.flight(true), NONE);
        due.is("states", hut.count(23), 1);
        due.is("called off", hut.flight(false), 0);
        hut.pass(1);
        due.is("none flew", hut.count(14), 0);
        hut.flight(true);
        hut.pass(1);
        due.is("one flew", hut.flight(true), 1);
        hut.pass(1);
        due.is("two flew", hut.flight(true), 2);
        due.is("coins", hut.coins(3), 200);
    }

    private static void freshTells() {
        HutBookings hut = new HutBookings();
        hut.order(0, 30);
        hut.order(1, 20);
        hut.pass(3);
        due.is("first day", hut.fresh(0, 0), 0);
        due.is("first portions", hut.fresh(0, 1), 12);
        due.is("second day", hut.fresh(1, 0), 1);
        due.is("third day", hut.fresh(2, 0), 2);
        due.is("third portions", hut.fresh(2, 1), 6);
        due.is("no fourth", hut.fresh(3, 0), NONE);
        due.is("rank -1", hut.fresh(-1, 0), BAD_VALUE);
        due.is("what -1", hut.fresh(0, -1), BAD_VALUE);
        due.is("what 2", hut.fresh(0, 2), BAD_VALUE);
        due.is("a wrong value comes first", hut.fresh(3, 2), BAD_VALUE);
        due.is("far off", hut.fresh(Integer.MAX_VALUE, 0), NONE);
        hut.book(3, 2, 9);
        hut.pass(1);
        due.is("eaten from the first", hut.fresh(0, 1), 3);
        hut.pass(1);
        due.is("the first is spoilt", hut.fresh(0, 0), 1);
        due.is("eaten from the next", hut.fresh(0, 1), 3);
        due.is("still the third", hut.fresh(1, 1), 6);
        due.is("no more", hut.fresh(2, 1), NONE);
    }

    private static void waitingTells() {
        HutBookings hut = new HutBookings();
        hut.order(0, 30);
        hut.order(1, 20);
        due.is("kind of the first", hut.waiting(0, 0), 0);
        due.is("portions of the first", hut.waiting(0, 1), 30);
        due.is("kind of the second", hut.waiting(1, 0), 1);
        due.is("portions of the second", hut.waiting(1, 1), 20);
        due.is("no third", hut.waiting(2, 0), NONE);
        due.is("rank -1", hut.waiting(-1, 0), BAD_VALUE);
        due.is("what -1", hut.waiting(0, -1), BAD_VALUE);
        due.is("what 2", hut.waiting(0, 2), BAD_VALUE);
        due.is("a wrong value comes first", hut.waiting(12, 2), BAD_VALUE);
        hut.pass(1);
        due.is("left of the first", hut.waiting(0, 1), 18);
        hut.pass(2);
        due.is("the second is the first", hut.waiting(0, 0), 1);
        due.is("left of it", hut.waiting(0, 1), 14);
        due.is("no second", hut.waiting(1, 1), NONE);
    }
}
