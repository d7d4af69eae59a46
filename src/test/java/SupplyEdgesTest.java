/** FOOD and promises 6, 7, 8, 9, 20 and 21: the edges of each sentence. */
public final class SupplyEdgesTest {
    private static final int BAD_VALUE = HutBookings.BAD_VALUE;
    private static final int FULL = HutBookings.FULL;
    private static final int NONE = HutBookings.NONE;

    private static final Due due = new Due("SupplyEdgesTest");

    public static void main(String[] args) {
        weatherFrom();
        weatherTo();
        weatherValue();
        weatherHowMany();
        weatherNone();
        orderKind();
        orderPortions();
        orderTwelve();
        recallNone();
        recallWhatIsLeft();
        flightSoAlready();
        flightHowMany();
        freshRankAndWhat();
        freshNotSoMuch();
        waitingRankAndWhat();
        waitingNotSoMany();
        due.end();
    }

    private static void weatherFrom() {
        due.sentence("Promise 6: from: the day of now to 999");
        HutBookings hut = new HutBookings();
        due.is("before the first day", hut.weather(-1, 5, 1), BAD_VALUE);
        hut.pass(3);
        due.is("yesterday", hut.weather(2, 5, 1), BAD_VALUE);
        due.is("its weather stays", hut.day(2, 2), 0);
        due.is("today", hut.weather(3, 5, 1), 3);
        due.is("the day 1000", hut.weather(1000, 1000, 1), BAD_VALUE);
        due.is("the day 999", hut.weather(999, 999, 1), 1);
        due.is("far too late", hut.weather(Integer.MAX_VALUE, Integer.MAX_VALUE, 1), BAD_VALUE);
        due.is("far too early", hut.weather(Integer.MIN_VALUE, 5, 1), BAD_VALUE);
    }

    private static void weatherTo() {
        due.sentence("Promise 6: to: from to 999");
        HutBookings hut = new HutBookings();
        due.is("a day before from", hut.weather(5, 4, 1), BAD_VALUE);
        due.is("far before from", hut.weather(5, Integer.MIN_VALUE, 1), BAD_VALUE);
        due.is("the same day", hut.weather(5, 5, 1), 1);
        due.is("the day before it", hut.day(4, 2), 0);
        due.is("the day behind it", hut.day(6, 2), 0);
        due.is("to 1000", hut.weather(998, 1000, 1), BAD_VALUE);
        due.is("far too late", hut.weather(998, Integer.MAX_VALUE, 1), BAD_VALUE);
        due.is("nothing was told", hut.day(998, 2), 0);
        due.is("to 999", hut.weather(998, 999, 1), 2);
        due.is("all days", hut.weather(0, 999, 2), 1000);
    }

    private static void weatherValue() {
        due.sentence("Promise 6: weather: 0 to 7");
        HutBookings hut = new HutBookings();
        due.is("-1", hut.weather(5, 5, -1), BAD_VALUE);
        due.is("8", hut.weather(5, 5, 8), BAD_VALUE);
        due.is("far too little", hut.weather(5, 5, Integer.MIN_VALUE), BAD_VALUE);
        due.is("far too much", hut.weather(5, 5, Integer.MAX_VALUE), BAD_VALUE);
        due.is("no state", hut.count(23), 0);
        for (int weather = 7; weather >= 0; weather--) {
            due.is("weather", hut.weather(5, 5, weather), 1);
            due.is("told", hut.day(5, 2), weather);
        }
    }

    private static void weatherHowMany() {
        due.sentence("Promise 6: how many of these days had another weather");
        HutBookings hut = new HutBookings();
        due.is("all", hut.weather(10, 14, 3), 5);
        due.is("the first and the last", hut.weather(9, 15, 3), 2);
        due.is("those behind", hut.weather(15, 18, 3), 3);
        due.is("one between", hut.weather(12, 12, 4), 1);
        due.is("that one again", hut.weather(9, 18, 3), 1);
    }

    private static void weatherNone() {
        due.sentence("Promise 6: BAD_VALUE; NONE if none had");
        HutBookings hut = new HutBookings();
        due.is("fair at first", hut.weather(0, 999, 0), NONE);
        due.is("no state", hut.count(23), 0);
        due.is("a wrong day is told first", hut.weather(0, 1000, 0), BAD_VALUE);
        due.is("a wrong order is told first", hut.weather(5, 4, 0), BAD_VALUE);
        hut.weather(3, 5, 6);
        due.is("once more", hut.weather(3, 5, 6), NONE);
        due.is("a part of it", hut.weather(4, 4, 6), NONE);
        due.is("one state", hut.count(23), 1);
    }

    private static void orderKind() {
        due.sentence("Promise 7: kind: 0 fresh, 1 dry");
        HutBookings hut = new HutBookings();
        due.is("-1", hut.order(-1, 5), BAD_VALUE);
        due.is("2", hut.order(2, 5), BAD_VALUE);
        due.is("far too little", hut.order(Integer.MIN_VALUE, 5), BAD_VALUE);
        due.is("far too much", hut.order(Integer.MAX_VALUE, 5), BAD_VALUE);
        due.is("none waits", hut.count(11), 0);
        due.is("fresh", hut.order(0, 5), 1);
        due.is("dry", hut.order(1, 3), 2);
        hut.pass(1);
        due.is("the fresh came", hut.count(9), 5);
        due.is("the dry came", hut.count(10), 3);
    }

    private static void orderPortions() {
        due.sentence("Promise 7: portions: 1 to 99");
        HutBookings hut = new HutBookings();
        due.is("none", hut.order(0, 0), BAD_VALUE);
        due.is("100", hut.order(0, 100), BAD_VALUE);
        due.is("less than none", hut.order(0, -1), BAD_VALUE);
        due.is("far too little", hut.order(0, Integer.MIN_VALUE), BAD_VALUE);
        due.is("far too much", hut.order(0, Integer.MAX_VALUE), BAD_VALUE);
        due.is("no state", hut.count(23), 0);
        due.is("one", hut.order(0, 1), 1);
        due.is("99", hut.order(0, 99), 2);
        due.is("all that wait", hut.count(12), 100);
    }

    private static void orderTwelve() {
        due.sentence("FOOD: at most 12 wait; promise 7: FULL if 12 wait");
        HutBookings hut = new HutBookings();
        for (int i = 1; i <= 11; i++) {
            due.is("order", hut.order(1, i), i);
        }
        due.is("the twelfth", hut.order(0, 99), 12);
        due.is("the 13th", hut.order(1, 1), FULL);
        due.is("a wrong kind is told first", hut.order(2, 1), BAD_VALUE);
        due.is("wrong portions are told first", hut.order(1, 100), BAD_VALUE);
        due.is("twelve wait", hut.count(11), 12);
        due.is("the last of them", hut.waiting(11, 1), 99);
        due.is("there is no 13th", hut.waiting(12, 1), NONE);
        due.is("their portions", hut.count(12), 66 + 99);
        due.is("recall", hut.recall(), 99);
        due.is("room for one", hut.order(1, 7), 12);
        due.is("and none more", hut.order(1, 7), FULL);
        hut.set(6, 1);
        hut.pass(1);
        due.is("the first one is gone", hut.count(11), 11);
        due.is("room for one", hut.order(1, 7), 12);
    }

    private static void recallNone() {
        due.sentence("Promise 8: NONE if none waits");
        HutBookings hut = new HutBookings();
        due.is("none waits", hut.recall(), NONE);
        due.is("no state", hut.count(23), 0);
        hut.order(1, 9);
        due.is("the only one", hut.recall(), 9);
        due.is("none waits", hut.recall(), NONE);
        hut.order(1, 9);
        hut.pass(1);
        due.is("it was carried up", hut.recall(), NONE);
        due.is("states", hut.count(23), 4);
    }

    private static void recallWhatIsLeft() {
        due.sentence("Promise 8: Takes the last order that waits back: its portions that are left");
        HutBookings hut = new HutBookings();
        hut.order(1, 13);
        hut.pass(1);
        due.is("one is left", hut.recall(), 1);
        due.is("what came stays", hut.count(10), 12);
        hut.order(0, 4);
        hut.order(0, 6);
        hut.order(1, 8);
        due.is("the last of three", hut.recall(), 8);
        due.is("the first stays", hut.waiting(0, 1), 4);
        due.is("the second is the last", hut.recall(), 6);
        due.is("one waits", hut.count(11), 1);
    }

    private static void flightSoAlready() {
        due.sentence("Promise 9: NONE if it is so already");
        HutBookings hut = new HutBookings();
        due.is("not called at first", hut.flight(false), NONE);
        due.is("no state", hut.count(23), 0);
        due.is("called", hut.flight(true), 0);
        due.is("called already", hut.flight(true), NONE);
        due.is("it is called still", hut.count(13), 1);
        due.is("one state", hut.count(23), 1);
        due.is("called off", hut.flight(false), 0);
        due.is("called off already", hut.flight(false), NONE);
        hut.flight(true);
        hut.pass(1);
        due.is("it flew and is not called", hut.flight(false), NONE);
    }

    private static void flightHowMany() {
        due.sentence("Promise 9: how many flights flew so far");
        HutBookings hut = new HutBookings();
        for (int flew = 0; flew < 4; flew++) {
            due.is("called", hut.flight(true), flew);
            due.is("called off", hut.flight(false), flew);
            due.is("called", hut.flight(true), flew);
            hut.pass(1);
        }
        due.is("flights", hut.count(14), 4);
    }

    private static void freshRankAndWhat() {
        due.sentence("Promise 20: rank from 0; what 0 and 1; BAD_VALUE; NONE");
        HutBookings hut = new HutBookings();
        due.is("rank -1", hut.fresh(-1, 0), BAD_VALUE);
        due.is("what -1", hut.fresh(0, -1), BAD_VALUE);
        due.is("what 2", hut.fresh(0, 2), BAD_VALUE);
        due.is("a wrong what is told before none", hut.fresh(99, 2), BAD_VALUE);
        due.is("none at first", hut.fresh(0, 0), NONE);
        due.is("no portions at first", hut.fresh(0, 1), NONE);
        due.is("far too little", hut.fresh(Integer.MIN_VALUE, 0), BAD_VALUE);
        due.is("far off", hut.fresh(Integer.MAX_VALUE, 1), NONE);
    }

    private static void freshNotSoMuch() {
        due.sentence("Promise 20: NONE if there is not so much");
        HutBookings hut = new HutBookings();
        hut.order(0, 20);
        hut.pass(2);
        due.is("the first day", hut.fresh(0, 0), 0);
        due.is("its portions", hut.fresh(0, 1), 12);
        due.is("the last day", hut.fresh(1, 0), 1);
        due.is("its portions", hut.fresh(1, 1), 8);
        due.is("one too many", hut.fresh(2, 0), NONE);
        due.is("one too many", hut.fresh(2, 1), NONE);
        hut.book(2, 1, 9);
        hut.book(3, 1, 3);
        hut.pass(1);
        due.is("three of the first are left", hut.fresh(0, 1), 3);
        hut.pass(1);
        due.is("the first is eaten up", hut.fresh(0, 0), 1);
        due.is("there is one", hut.fresh(1, 0), NONE);
    }

    private static void waitingRankAndWhat() {
        due.sentence("Promise 21: rank from 0; what 0 and 1; BAD_VALUE; NONE");
        HutBookings hut = new HutBookings();
        due.is("rank -1", hut.waiting(-1, 0), BAD_VALUE);
        due.is("what -1", hut.waiting(0, -1), BAD_VALUE);
        due.is("what 2", hut.waiting(0, 2), BAD_VALUE);
        due.is("a wrong what is told before none", hut.waiting(99, 2), BAD_VALUE);
        due.is("none at first", hut.waiting(0, 0), NONE);
        due.is("far too little", hut.waiting(Integer.MIN_VALUE, 0), BAD_VALUE);
        due.is("far off", hut.waiting(Integer.MAX_VALUE, 1), NONE);
    }

    private static void waitingNotSoMany() {
        due.sentence("Promise 21: NONE if there are not so many");
        HutBookings hut = new HutBookings();
        hut.order(1, 30);
        hut.order(0, 99);
        due.is("the first one's kind", hut.waiting(0, 0), 1);
        due.is("the first one's portions", hut.waiting(0, 1), 30);
        due.is("the last one's kind", hut.waiting(1, 0), 0);
        due.is("the last one's portions", hut.waiting(1, 1), 99);
        due.is("one too many", hut.waiting(2, 0), NONE);
        hut.pass(2);
        due.is("left of the first", hut.waiting(0, 1), 6);
        hut.recall();
        due.is("one waits", hut.waiting(1, 1), NONE);
    }
}
