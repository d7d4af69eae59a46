/** Promises 27 (hungryIn), 28 (wanting), 29 (goneIn), 30 (turnedAway) and 31 (bestCall). */
public final class ForesightTest {
    private static final int UNKNOWN = HutBookings.UNKNOWN;
    private static final int BAD_VALUE = HutBookings.BAD_VALUE;
    private static final int NOT_POSSIBLE = HutBookings.NOT_POSSIBLE;
    private static final int NONE = HutBookings.NONE;

    private static final Due due = new Due("ForesightTest");

    public static void main(String[] args) {
        hungryInCountsDays();
        hungryInEndsWithSixty();
        hungryInCountsFromNow();
        wantingIsTheLeast();
        goneInCountsDays();
        goneInEndsWithSixty();
        goneInOfWhoIsTurnedAway();
        goneInBehindTheLastDay();
        turnedAwayCountsPersons();
        bestCallTakesMost();
        bestCallWaitsForTheWind();
        bestCallEndsWithThirty();
        bestCallTakesNobody();
        nothingIsChanged();
        due.end();
    }

    private static void hungryInCountsDays() {
        HutBookings hut = new HutBookings();
        due.is("nobody is there", hut.hungryIn(), NONE);
        hut.book(0, 4, 5);
        due.is("nothing to eat", hut.hungryIn(), 1);
        hut.order(0, 10);
        due.is("two days' food", hut.hungryIn(), 3);
        hut.order(1, 10);
        due.is("all are fed", hut.hungryIn(), NONE);
        hut.set(6, 4);
        due.is("too little is carried", hut.hungryIn(), 1);
        hut.flight(true);
        due.is("a flight brings more", hut.hungryIn(), NONE);
    }

    private static void hungryInEndsWithSixty() {
        HutBookings hut = new HutBookings();
        hut.book(59, 1, 1);
        due.is("the 60th day", hut.hungryIn(), 60);
        hut.cancel(0);
        hut.book(60, 1, 1);
        due.is("the 61st day", hut.hungryIn(), NONE);
        hut.pass(1);
        due.is("a day later", hut.hungryIn(), 60);
    }

    private static void hungryInCountsFromNow() {
        HutBookings hut = new HutBookings();
        hut.book(0, 1, 3);
        hut.book(4, 1, 3);
        hut.pass(1);
        due.is("hungry so far", hut.count(19), 3);
        due.is("for the next time", hut.hungryIn(), 4);
        due.is("wanting then", hut.wanting(4), 3);
    }

    private static void wantingIsTheLeast() {
        HutBookings hut = new HutBookings();
        hut.book(0, 4, 5);
        due.is("one day", hut.wanting(1), 5);
        due.is("four days", hut.wanting(4), 20);
        due.is("60 days", hut.wanting(60), 20);
        hut.set(6, 4);
        hut.order(0, 16);
        due.is("one a day", hut.wanting(3), 3);
        due.is("four", hut.wanting(60), 4);
        hut.weather(0, 1, 1);
        due.is("nobody comes yet", hut.wanting(2), 0);
        due.is("then they do", hut.wanting(4), 2);
        due.is("days 0", hut.wanting(0), BAD_VALUE);
        due.is("days 61", hut.wanting(61), BAD_VALUE);
        HutBookings late = new HutBookings();
        late.book(0, 3, 6);
        late.set(6, 10);
        late.weather(1, 1, 1);
        late.order(1, 30);
        due.is("what comes later is too late", late.wanting(3), 2);
    }

    private static void goneInCountsDays() {
        HutBookings hut = new HutBookings();
        due.is("unknown", hut.goneIn(0), UNKNOWN);
        hut.book(0, 2, 3);
        hut.book(5, 1, 1);
        due.is("unknown", hut.goneIn(2), UNKNOWN);
        due.is("unknown", hut.goneIn(-1), UNKNOWN);
        due.is("it leaves on its end", hut.goneIn(0), 3);
        hut.cancel(1);
        due.is("cancelled", hut.goneIn(1), NOT_POSSIBLE);
        hut.weather(2, 3, 2);
        due.is("the way down is closed", hut.goneIn(0), 5);
        hut.pass(1);
        due.is("a day later", hut.goneIn(0), 4);
        hut.flight(true);
        due.is("a flight now is too early", hut.goneIn(0), 4);
        hut.weather(1, 1, 4);
        due.is("a flight waits", hut.goneIn(0), 2);
        hut.pass(2);
        due.is("gone", hut.goneIn(0), NOT_POSSIBLE);
    }

    private static void goneInEndsWithSixty() {
        HutBookings hut = new HutBookings();
        hut.book(58, 1, 1);
        hut.book(59, 1, 1);
        due.is("the 60th day", hut.goneIn(0), 60);
        due.is("the 61st day", hut.goneIn(1), NONE);
    }

    private static void goneInOfWhoIsTurnedAway() {
        HutBookings hut = new HutBookings();
        hut.book(1, 2, 3);
        hut.weather(1, 2, 1);
        due.is("it is turned away", hut.goneIn(0), NONE);
        hut.pass(4);
        due.is("it was turned away", hut.goneIn(0), NOT_POSSIBLE);
    }

    private static void goneInBehindTheLastDay() {
        HutBookings hut = new HutBookings();
        hut.book(899, 1, 9);
        hut.weather(900, 999, 2);
        for (int i = 0; i < 33; i++) {
            hut.pass(30);
        }
        due.is("stranded", hut.booking(0, 6), 1);
        due.is("on the day 1000", hut.goneIn(0), 11);
        hut.pass(9);
        due.is("from the last day", hut.goneIn(0), 2);
        due.is("hungry on the last day", hut.wanting(60), 9);
        due.is("on the next", hut.hungryIn(), 1);
        due.is("a flight before", hut.bestCall(), NONE);
        hut.set(8, 9);
        due.is("a flight now", hut.bestCall(), 0);
    }

    private static void turnedAwayCountsPersons() {
        HutBookings hut = new HutBookings();
        hut.set(1, 0);
        hut.book(0, 1, 9);
        hut.book(1, 1, 2);
        hut.book(1, 1, 1);
        hut.book(7, 2, 4);
        hut.weather(1, 1, 2);
        hut.weather(7, 9, 1);
        due.is("on the first day", hut.turnedAway(1), 0);
        due.is("one group", hut.turnedAway(2), 2);
        due.is("until the end of another", hut.turnedAway(9), 2);
        due.is("and that", hut.turnedAway(10), 6);
        due.is("in all", hut.turnedAway(60), 6);
        due.is("days 0", hut.turnedAway(0), BAD_VALUE);
        due.is("days 61", hut.turnedAway(61), BAD_VALUE);
        hut.pass(2);
        due.is("from now on", hut.turnedAway(60), 4);
    }

    private static void bestCallTakesMost() {
        HutBookings hut = new HutBookings();
        hut.set(8, 6);
        hut.book(0, 1, 2);
        hut.book(0, 3, 3);
        hut.book(3, 2, 1);
        hut.weather(1, 8, 2);
        due.is("when all are stranded", hut.bestCall(), 5);
        hut.set(8, 5);
        due.is("when five are", hut.bestCall(), 3);
        hut.set(8, 2);
        due.is("the soonest of those with two", hut.bestCall(), 1);
        hut.set(8, 1);
        due.is("only one has seats", hut.bestCall(), 5);
        hut.flight(true);
        due.is("one is called", hut.bestCall(), NONE);
        hut.flight(false);
        hut.pass(5);
        due.is("now", hut.bestCall(), 0);
    }

    private static void bestCallWaitsForTheWind() {
        HutBookings hut = new HutBookings();
        hut.book(0, 1, 2);
        hut.weather(1, 4, 6);
        hut.weather(5, 5, 2);
        due.is("a call on the first windy day waits", hut.bestCall(), 1);
        hut.weather(0, 0, 4);
        due.is("a call now waits too", hut.bestCall(), 0);
    }

    private static void bestCallEndsWithThirty() {
        HutBookings hut = new HutBookings();
        hut.book(29, 1, 1);
        hut.weather(30, 30, 2);
        due.is("called in 30 days", hut.bestCall(), 30);
        hut.undo();
        hut.undo();
        hut.book(30, 1, 1);
        hut.weather(31, 31, 2);
        due.is("in 31", hut.bestCall(), NONE);
        hut.weather(30, 30, 4);
        due.is("it waits for the 31st", hut.bestCall(), 30);
        HutBookings far = new HutBookings();
        far.book(40, 1, 1);
        far.weather(41, 80, 2);
        far.weather(20, 58, 6);
        due.is("it flies on the 60th day", far.bestCall(), 20);
        far.weather(59, 59, 6);
        due.is("the 61st is too far", far.bestCall(), NONE);
    }

    private static void bestCallTakesNobody() {
        HutBookings hut = new HutBookings();
        due.is("nobody", hut.bestCall(), NONE);
        hut.book(0, 2, 4);
        due.is("they walk", hut.bestCall(), NONE);
        hut.weather(2, 4, 2);
        due.is("too many for the seats", hut.bestCall(), NONE);
        hut.set(8, 4);
        due.is("they have seats", hut.bestCall(), 2);
        hut.set(8, 0);
        due.is("no seats", hut.bestCall(), NONE);
    }

    private static void nothingIsChanged() {
        HutBookings hut = new HutBookings();
        hut.book(0, 2, 4);
        hut.order(0, 30);
        hut.flight(true);
        hut.hungryIn();
        hut.wanting(60);
        hut.goneIn(0);
        hut.turnedAway(60);
        hut.bestCall();
        due.is("now", hut.count(0), 0);
        due.is("booked", hut.count(2), 1);
        due.is("waiting", hut.count(12), 30);
        due.is("called", hut.count(13), 1);
        due.is("states", hut.count(23), 3);
    }
}
