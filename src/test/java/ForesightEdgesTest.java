/** Promises 27 (hungryIn), 28 (wanting), 29 (goneIn), 30 (turnedAway) and 31 (bestCall): the edges of each. */
public final class ForesightEdgesTest {
    private static final int UNKNOWN = HutBookings.UNKNOWN;
    private static final int BAD_VALUE = HutBookings.BAD_VALUE;
    private static final int NOT_POSSIBLE = HutBookings.NOT_POSSIBLE;
    private static final int NONE = HutBookings.NONE;

    private static final Due due = new Due("ForesightEdgesTest");

    public static void main(String[] args) {
        hunger();
        wanting();
        gone();
        turnedAway();
        bestCall();
        due.end();
    }

    private static void hunger() {
        hungryAsTheNextDayPasses();
        hungryWithinSixty();
        hungryForOnePortion();
        hungryNextTime();
        daysBehindTheLast();
    }

    private static void wanting() {
        wantingDays();
        wantingAtLeast();
        wantingWithinTheDays();
    }

    private static void gone() {
        goneUnknown();
        goneNotPossible();
        goneAsTheNextDayPasses();
        goneWithinSixty();
        goneByAFlight();
        goneOrTurnedAway();
    }

    private static void turnedAway() {
        turnedAwayDays();
        turnedAwayWithinTheDays();
        turnedAwayFromNowOn();
    }

    private static void bestCall() {
        bestCallNow();
        bestCallUpToThirty();
        bestCallSoonestOfSeveral();
        bestCallMostPersons();
        bestCallFirstDayWithoutWind();
        bestCallWithinSixty();
        bestCallNobody();
        bestCallCalledAlready();
    }

    private static HutBookings onTheDay(int day) {
        HutBookings hut = new HutBookings();
        for (int passed = 0; passed < day; passed += 30) {
            hut.pass(Math.min(30, day - passed));
        }
        due.is("now", hut.count(0), day);
        return hut;
    }

    /** Nine persons who are stranded from the day 900 to the day 999. */
    private static HutBookings strandedOnTheDay(int day) {
        HutBookings hut = new HutBookings();
        hut.book(899, 1, 9);
        hut.weather(900, 999, 2);
        for (int passed = 0; passed < day; passed += 30) {
            hut.pass(Math.min(30, day - passed));
        }
        due.is("now", hut.count(0), day);
        due.is("stranded", hut.booking(0, 6), 1);
        return hut;
    }

    private static void hungryAsTheNextDayPasses() {
        due.sentence("Promise 27: 1 if it is so as the next day passes");
        HutBookings hut = new HutBookings();
        due.is("nobody is there", hut.hungryIn(), NONE);
        hut.book(0, 1, 1);
        due.is("today", hut.hungryIn(), 1);
        HutBookings next = new HutBookings();
        next.book(1, 1, 1);
        due.is("tomorrow", next.hungryIn(), 2);
    }

    private static void hungryWithinSixty() {
        due.sentence("Promise 27: NONE if it is not so within 60");
        HutBookings sixty = new HutBookings();
        sixty.book(59, 1, 1);
        due.is("as the 60th day passes", sixty.hungryIn(), 60);
        HutBookings more = new HutBookings();
        more.book(60, 1, 1);
        due.is("as the 61st day passes", more.hungryIn(), NONE);
        more.pass(1);
        due.is("a day later", more.hungryIn(), 60);
    }

    private static void hungryForOnePortion() {
        due.sentence("Promise 27: in how many days somebody is hungry for the first time");
        for (int portions = 1; portions <= 10; portions++) {
            HutBookings hut = new HutBookings();
            hut.book(0, 3, 3);
            hut.order(1, portions);
            due.is("with " + portions, hut.hungryIn(), portions >= 9 ? NONE : portions / 3 + 1);
        }
    }

    private static void hungryNextTime() {
        due.sentence("Promise 27: those who were hungry so far do not count");
        HutBookings hut = new HutBookings();
        hut.book(0, 1, 3);
        hut.pass(1);
        due.is("hungry so far", hut.count(19), 3);
        due.is("nobody more", hut.hungryIn(), NONE);
        hut.book(5, 1, 1);
        due.is("on the day 5", hut.hungryIn(), 5);
    }

    private static void daysBehindTheLast() {
        due.sentence("Promise 27: the bound of days does not matter; days behind 999 have the weather 0");
        HutBookings hut = strandedOnTheDay(999);
        due.is("hungry on the day 999", hut.hungryIn(), 1);
        due.is("on that day alone", hut.wanting(60), 9);
        due.is("gone on the day 1000", hut.goneIn(0), 2);
        due.is("nobody is turned away", hut.turnedAway(60), 0);
        hut.set(8, 9);
        due.is("a flight on the day 999", hut.bestCall(), 0);
        hut.weather(999, 999, 6);
        due.is("none on the day 1000, they walk", hut.bestCall(), NONE);
        hut.weather(999, 999, 0);
        due.is("gone on the day 999", hut.goneIn(0), 1);
        HutBookings before = strandedOnTheDay(940);
        due.is("on the day 999, which is the 60th", before.wanting(60), 540);
        due.is("gone on the 61st", before.goneIn(0), NONE);
        before.pass(1);
        due.is("59 days", before.wanting(60), 531);
        due.is("gone on the 60th, the day 1000", before.goneIn(0), 60);
        HutBookings empty = onTheDay(999);
        due.is("nobody", empty.hungryIn(), NONE);
        due.is("nothing", empty.wanting(60), 0);
    }

    private static void wantingDays() {
        due.sentence("Promise 28: days: 1 to 60");
        HutBookings hut = new HutBookings();
        hut.book(0, 1, 2);
        due.is("0", hut.wanting(0), BAD_VALUE);
        due.is("61", hut.wanting(61), BAD_VALUE);
        due.is("far too few", hut.wanting(Integer.MIN_VALUE), BAD_VALUE);
        due.is("far too many", hut.wanting(Integer.MAX_VALUE), BAD_VALUE);
        due.is("1", hut.wanting(1), 2);
        due.is("60", hut.wanting(60), 2);
    }

    private static void wantingAtLeast() {
        due.sentence("Promise 28: how many more portions there would have to be, at least, for nobody to be hungry");
        for (int portions = 1; portions <= 9; portions++) {
            HutBookings hut = new HutBookings();
            hut.book(0, 2, 4);
            hut.order(1, portions);
            due.is("with " + portions, hut.wanting(60), Math.max(0, 8 - portions));
        }
        HutBookings late = new HutBookings();
        late.book(0, 3, 6);
        late.set(6, 10);
        late.weather(1, 1, 1);
        late.order(1, 30);
        due.is("what comes too late does not help", late.wanting(60), 2);
        due.is("as long as there is enough", late.wanting(1), 0);
        HutBookings spoils = new HutBookings();
        spoils.book(5, 1, 2);
        spoils.order(0, 12);
        due.is("what is spoilt then does not help", spoils.wanting(60), 2);
        spoils.set(5, 6);
        due.is("what keeps does", spoils.wanting(60), 0);
    }

    private static void wantingWithinTheDays() {
        due.sentence("Promise 28: in the next days");
        HutBookings hut = new HutBookings();
        hut.book(0, 1, 1);
        hut.book(1, 1, 2);
        hut.book(59, 1, 4);
        hut.book(60, 1, 8);
        due.is("1", hut.wanting(1), 1);
        due.is("2", hut.wanting(2), 3);
        due.is("59", hut.wanting(59), 3);
        due.is("60", hut.wanting(60), 7);
        hut.pass(1);
        due.is("from the next day on", hut.wanting(60), 14);
    }

    private static void goneUnknown() {
        due.sentence("Promise 29: UNKNOWN");
        HutBookings hut = new HutBookings();
        due.is("none came", hut.goneIn(0), UNKNOWN);
        hut.book(0, 1, 1);
        due.is("-1", hut.goneIn(-1), UNKNOWN);
        due.is("one too many", hut.goneIn(1), UNKNOWN);
        due.is("far too few", hut.goneIn(Integer.MIN_VALUE), UNKNOWN);
        due.is("far too many", hut.goneIn(Integer.MAX_VALUE), UNKNOWN);
        due.is("the last one", hut.goneIn(0), 2);
    }

    private static void goneNotPossible() {
        due.sentence("Promise 29: NOT_POSSIBLE if it is neither booked nor there");
        HutBookings hut = new HutBookings();
        hut.book(0, 1, 1);
        hut.book(1, 1, 1);
        hut.book(9, 1, 1);
        hut.book(0, 9, 1);
        hut.book(9, 1, 1);
        hut.weather(1, 1, 1);
        hut.cancel(2);
        hut.pass(3);
        int[] how = {2, 4, 3, 1, 0};
        int[] answers = {NOT_POSSIBLE, NOT_POSSIBLE, NOT_POSSIBLE, 7, 8};
        for (int booking = 0; booking < how.length; booking++) {
            due.is("how it is", hut.booking(booking, 0), how[booking]);
            due.is("goneIn", hut.goneIn(booking), answers[booking]);
        }
    }

    private static void goneAsTheNextDayPasses() {
        due.sentence("Promise 29: in how many days a group is gone");
        HutBookings hut = new HutBookings();
        hut.book(0, 1, 1);
        hut.book(0, 2, 1);
        hut.pass(1);
        due.is("its end is today", hut.goneIn(0), 1);
        due.is("its end is tomorrow", hut.goneIn(1), 2);
        hut.weather(1, 1, 2);
        due.is("it cannot leave today", hut.goneIn(0), 2);
        due.is("neither does it matter", hut.goneIn(1), 2);
    }

    private static void goneWithinSixty() {
        due.sentence("Promise 29: NONE if it is not gone within 60");
        HutBookings hut = new HutBookings();
        hut.book(58, 1, 1);
        hut.book(58, 2, 1);
        due.is("as the 60th day passes", hut.goneIn(0), 60);
        due.is("as the 61st day passes", hut.goneIn(1), NONE);
        hut.pass(1);
        due.is("a day later", hut.goneIn(1), 60);
    }

    private static void goneByAFlight() {
        due.sentence("Promise 29: if nothing else is done: a flight that is called flies");
        HutBookings hut = new HutBookings();
        hut.book(0, 1, 3);
        hut.book(0, 1, 1);
        hut.weather(1, 99, 2);
        hut.weather(1, 2, 6);
        hut.pass(1);
        due.is("none is called", hut.goneIn(0), NONE);
        hut.flight(true);
        due.is("it waits for two days", hut.goneIn(0), 3);
        due.is("no seats are left for the other", hut.goneIn(1), NONE);
    }

    private static void goneOrTurnedAway() {
        due.sentence("Promise 29: NONE if it is not gone within 60 (or turned away)");
        HutBookings hut = new HutBookings();
        hut.book(1, 1, 1);
        hut.book(1, 2, 1);
        hut.weather(1, 1, 1);
        due.is("turned away at its end", hut.goneIn(0), NONE);
        due.is("it comes a day late", hut.goneIn(1), 4);
        HutBookings room = new HutBookings();
        room.set(1, 0);
        room.book(0, 1, 9);
        room.book(1, 1, 2);
        room.weather(1, 1, 2);
        due.is("no room for it", room.goneIn(1), NONE);
        due.is("the others leave", room.goneIn(0), 3);
    }

    private static void turnedAwayDays() {
        due.sentence("Promise 30: days: 1 to 60");
        HutBookings hut = new HutBookings();
        due.is("0", hut.turnedAway(0), BAD_VALUE);
        due.is("61", hut.turnedAway(61), BAD_VALUE);
        due.is("far too few", hut.turnedAway(Integer.MIN_VALUE), BAD_VALUE);
        due.is("far too many", hut.turnedAway(Integer.MAX_VALUE), BAD_VALUE);
        due.is("1", hut.turnedAway(1), 0);
        due.is("60", hut.turnedAway(60), 0);
    }

    private static void turnedAwayWithinTheDays() {
        due.sentence("Promise 30: how many persons would be turned away in the next days");
        HutBookings hut = new HutBookings();
        hut.book(0, 1, 1);
        hut.book(58, 1, 2);
        hut.book(59, 1, 4);
        hut.weather(0, 0, 1);
        hut.weather(58, 59, 1);
        due.is("1", hut.turnedAway(1), 0);
        due.is("2", hut.turnedAway(2), 1);
        due.is("59", hut.turnedAway(59), 1);
        due.is("60", hut.turnedAway(60), 3);
        HutBookings room = new HutBookings();
        room.set(1, 1);
        room.book(0, 1, 9);
        room.book(1, 1, 3);
        room.book(1, 1, 2);
        room.weather(1, 1, 2);
        due.is("who has no room, today", room.turnedAway(1), 0);
        due.is("tomorrow", room.turnedAway(2), 3);
    }

    private static void turnedAwayFromNowOn() {
        due.sentence("Promise 30: those who were turned away so far do not count");
        HutBookings hut = new HutBookings();
        hut.book(0, 1, 3);
        hut.weather(0, 0, 1);
        hut.pass(2);
        due.is("so far", hut.count(22), 3);
        due.is("none more", hut.turnedAway(60), 0);
    }

    private static void bestCallNow() {
        due.sentence("Promise 31: in how many days it is called (0 now)");
        HutBookings hut = new HutBookings();
        hut.book(0, 1, 3);
        hut.weather(1, 1, 2);
        due.is("tomorrow", hut.bestCall(), 1);
        hut.pass(1);
        due.is("now", hut.bestCall(), 0);
    }

    private static void bestCallUpToThirty() {
        due.sentence("Promise 31: and so on up to 30");
        HutBookings thirty = new HutBookings();
        thirty.book(29, 1, 1);
        thirty.weather(30, 30, 2);
        due.is("in 30 days", thirty.bestCall(), 30);
        HutBookings more = new HutBookings();
        more.book(30, 1, 1);
        more.weather(31, 31, 2);
        due.is("in 31 days", more.bestCall(), NONE);
        more.weather(30, 30, 4);
        due.is("in 30 days, to fly on the next", more.bestCall(), 30);
        more.weather(29, 29, 4);
        due.is("in 29 days, to fly two days later", more.bestCall(), 29);
    }

    private static void bestCallSoonestOfSeveral() {
        due.sentence("Promise 31: of several the soonest");
        HutBookings hut = new HutBookings();
        hut.book(0, 1, 2);
        hut.weather(1, 5, 2);
        due.is("the first of five days", hut.bestCall(), 1);
        hut.weather(0, 2, 6);
        due.is("of four calls that fly on one day", hut.bestCall(), 0);
        hut.weather(0, 0, 0);
        due.is("of three", hut.bestCall(), 1);
    }

    private static void bestCallMostPersons() {
        due.sentence("Promise 31: so that it takes most persons down");
        HutBookings hut = new HutBookings();
        hut.set(8, 3);
        hut.book(0, 1, 2);
        hut.book(0, 3, 1);
        hut.weather(1, 4, 2);
        due.is("three and not two", hut.bestCall(), 3);
        hut.set(8, 2);
        due.is("two as soon as may be", hut.bestCall(), 1);
        HutBookings fewer = new HutBookings();
        fewer.set(8, 4);
        fewer.book(0, 3, 1);
        fewer.book(0, 1, 4);
        fewer.weather(1, 4, 2);
        due.is("four and not one later, who has the lower number", fewer.bestCall(), 1);
    }

    private static void bestCallFirstDayWithoutWind() {
        due.sentence("Promise 31: it flies on the first day from then on without too much wind");
        HutBookings hut = new HutBookings();
        hut.set(8, 3);
        hut.book(0, 1, 1);
        hut.book(0, 2, 2);
        hut.weather(1, 4, 2);
        hut.weather(1, 1, 6);
        due.is("on the day 2, so it may be called on the day 1", hut.bestCall(), 1);
        hut.weather(2, 3, 6);
        due.is("on the day 4", hut.bestCall(), 1);
        hut.weather(4, 4, 6);
        due.is("on no day while they are stranded", hut.bestCall(), NONE);
        due.is("they walk on the day 5", hut.goneIn(0), 6);
    }

    private static void bestCallWithinSixty() {
        due.sentence("Promise 31: within 60 days of now");
        HutBookings hut = new HutBookings();
        hut.book(40, 1, 1);
        hut.weather(41, 80, 2);
        hut.weather(20, 58, 6);
        due.is("it flies as the 60th day passes", hut.bestCall(), 20);
        hut.weather(59, 59, 6);
        due.is("the 61st is too late", hut.bestCall(), NONE);
    }

    private static void bestCallNobody() {
        due.sentence("Promise 31: NONE if no flight takes anybody down");
        HutBookings hut = new HutBookings();
        due.is("nobody is there", hut.bestCall(), NONE);
        hut.book(0, 1, 4);
        due.is("they walk", hut.bestCall(), NONE);
        hut.weather(1, 3, 2);
        due.is("one seat is wanting", hut.bestCall(), NONE);
        hut.set(8, 4);
        due.is("there are seats", hut.bestCall(), 1);
        hut.weather(1, 3, 6);
        due.is("too much wind", hut.bestCall(), NONE);
        hut.weather(3, 3, 2);
        due.is("on the last day without", hut.bestCall(), 1);
        hut.set(8, 0);
        due.is("no seats", hut.bestCall(), NONE);
    }

    private static void bestCallCalledAlready() {
        due.sentence("Promise 31: NONE if one is called already");
        HutBookings hut = new HutBookings();
        hut.book(0, 1, 1);
        hut.weather(1, 9, 2);
        hut.pass(1);
        due.is("none is called", hut.bestCall(), 0);
        hut.flight(true);
        due.is("one is called", hut.bestCall(), NONE);
        hut.flight(false);
        due.is("it is called off", hut.bestCall(), 0);
        hut.set(8, 0);
        hut.flight(true);
        hut.pass(1);
        hut.set(8, 1);
        due.is("it flew", hut.bestCall(), 0);
    }
}
