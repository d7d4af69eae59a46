/** THE WEATHER, A DAY and promise 10: the edges of each of the eight steps. */
public final class DayEdgesTest {
    private static final int BAD_VALUE = HutBookings.BAD_VALUE;
    private static final int FULL = HutBookings.FULL;
    private static final int NONE = HutBookings.NONE;

    private static final Due due = new Due("DayEdgesTest");

    public static void main(String[] args) {
        weather();
        leaving();
        coming();
        food();
        flights();
        nights();
        passing();
        due.end();
    }

    private static void weather() {
        fairAtFirst();
        sumOfTheWeather();
        onlyTheWeatherOfTheDay();
    }

    private static void leaving() {
        endOfTheDayOrEarlierLeaves();
        leavesNotWhileTheWayDownIsClosed();
        priceAsItIsOnThisDay();
        nightsSleptUpToItsEnd();
        restOfTheDepositIsGivenBack();
        endOfTheDayIsTurnedAway();
    }

    private static void coming() {
        arrivesOnTheDayOrEarlier();
        comesNotWhileTheWayUpIsClosed();
        notMoreThanBedsAndMattresses();
        byNumbers();
        leavesBeforeOthersCome();
        turnedAwayGetsTheDepositBack();
        moreThereThanPlaces();
    }

    private static void food() {
        freshFoodIsSpoilt();
        freshFoodOrEarlierIsSpoilt();
        freshFoodIsKnownByItsDay();
        spoiltBeforeItIsEaten();
        carriedAsManyAtMost();
        carriedFirstOrderFirst();
        orderOfWhichNoneIsLeft();
        carriedOnlyIfTheWayUpIsOpen();
        eachEatsAPortion();
        freshEarliestFirstThenDry();
        whoEatsOnTheDay();
    }

    private static void flights() {
        fliesIfCalledAndNotTooMuchWind();
        flightBringsAsManyAtMost();
        takesWhoIsStranded();
        seatsAreFilledByNumbers();
        whoHasNoSeatsIsPassedOver();
        takenDownPayAsWalking();
        takenDownNeitherEatNorSleep();
        costsAndIsNotCalledAnyMore();
    }

    private static void nights() {
        eachSleepsOneNight();
        endOfTheDayIsStranded();
    }

    private static void passing() {
        daysToPass();
        notPastTheLastDay();
    }

    private static void fairAtFirst() {
        due.sentence("THE WEATHER: it is 0 for each day at first");
        HutBookings hut = null;
        for (int day = 0; day < 1000; day++) {
            if (day % 500 == 0) {
                hut = new HutBookings();
            }
            due.is("weather of the day " + day, hut.day(day, 2), 0);
        }
    }

    private static void sumOfTheWeather() {
        due.sentence("THE WEATHER: 1 the way up is closed, 2 the way down is closed, 4 too much wind");
        for (int weather = 0; weather < 8; weather++) {
            HutBookings hut = new HutBookings();
            hut.set(6, 1);
            hut.set(7, 10);
            hut.order(1, 50);
            hut.book(0, 1, 2);
            hut.book(1, 1, 1);
            hut.pass(1);
            hut.flight(true);
            if (weather > 0) {
                due.is("weather", hut.weather(1, 1, weather), 1);
            }
            hut.pass(1);
            boolean up = weather % 2 == 0;
            boolean down = weather / 2 % 2 == 0;
            boolean flies = weather < 4;
            String in = " in the weather " + weather;
            due.is("it comes" + in, hut.booking(1, 0), up ? 1 : 0);
            due.is("it leaves" + in, hut.booking(0, 0), down || flies ? 2 : 1);
            due.is("it flew" + in, hut.count(14), flies ? 1 : 0);
            due.is("taken down" + in, hut.count(15), !down && flies ? 2 : 0);
            due.is("portions brought" + in, hut.count(16), 1 + (up ? 1 : 0) + (flies ? 10 : 0));
            due.is("stranded" + in, hut.count(20), !down && !flies ? 2 : 0);
        }
    }

    private static void onlyTheWeatherOfTheDay() {
        due.sentence("A DAY: d being the day of now: the days before and behind it do not count");
        HutBookings hut = new HutBookings();
        hut.weather(0, 0, 7);
        hut.weather(2, 2, 7);
        hut.order(1, 5);
        hut.book(1, 1, 1);
        hut.flight(true);
        hut.pass(1);
        due.is("nothing came", hut.count(16), 0);
        due.is("no flight", hut.count(14), 0);
        hut.pass(1);
        due.is("it comes", hut.booking(0, 0), 1);
        due.is("all is carried", hut.count(16), 5);
        due.is("it flew", hut.count(14), 1);
        hut.pass(1);
        due.is("it does not leave", hut.booking(0, 0), 1);
    }

    private static void endOfTheDayOrEarlierLeaves() {
        due.sentence("A DAY 2: each group that is there and whose end is d or earlier leaves");
        HutBookings hut = new HutBookings();
        hut.book(0, 1, 1);
        hut.book(0, 2, 1);
        hut.book(0, 3, 1);
        hut.weather(1, 1, 2);
        hut.pass(2);
        due.is("none left", hut.count(3), 3);
        hut.pass(1);
        due.is("an end of the day before", hut.booking(0, 0), 2);
        due.is("an end of the day", hut.booking(1, 0), 2);
        due.is("an end of the next day", hut.booking(2, 0), 1);
    }

    private static void leavesNotWhileTheWayDownIsClosed() {
        due.sentence("A DAY 2: If the way down is open");
        HutBookings hut = new HutBookings();
        hut.book(0, 1, 1);
        hut.weather(1, 1, 2);
        hut.weather(2, 2, 5);
        hut.pass(2);
        due.is("it cannot leave", hut.booking(0, 0), 1);
        hut.pass(1);
        due.is("neither the way up nor the wind keeps it", hut.booking(0, 0), 2);
    }

    private static void priceAsItIsOnThisDay() {
        due.sentence("A DAY 2: it pays the price, as it is on this day");
        HutBookings hut = new HutBookings();
        hut.book(0, 2, 3);
        hut.pass(2);
        hut.set(2, 31);
        hut.pass(1);
        due.is("as it is when it leaves", hut.coins(0), 31 * 3 * 2);
        hut.set(2, 99);
        hut.pass(1);
        due.is("not as it is later", hut.coins(0), 31 * 3 * 2);
    }

    private static void nightsSleptUpToItsEnd() {
        due.sentence("A DAY 2: for its persons and its nights slept up to its end, less its deposit");
        HutBookings whole = new HutBookings();
        whole.book(0, 3, 2);
        whole.pass(4);
        due.is("all nights", whole.coins(0), 20 * 2 * 3);
        HutBookings late = new HutBookings();
        late.weather(0, 1, 1);
        late.book(0, 3, 2);
        late.pass(4);
        due.is("one night of three", late.coins(0), 20 * 2);
        HutBookings stranded = new HutBookings();
        stranded.weather(1, 4, 2);
        stranded.book(0, 1, 2);
        stranded.pass(6);
        due.is("slept", stranded.booking(0, 5), 5);
        due.is("the night up to its end", stranded.coins(0), 20 * 2);
        HutBookings both = new HutBookings();
        both.weather(0, 0, 1);
        both.weather(2, 3, 2);
        both.book(0, 2, 1);
        both.pass(5);
        due.is("slept", both.booking(0, 5), 3);
        due.is("late and stranded", both.coins(0), 20);
        HutBookings longer = new HutBookings();
        longer.book(0, 1, 1);
        longer.pass(1);
        longer.extend(0, 2);
        longer.pass(3);
        due.is("gone", longer.booking(0, 0), 2);
        due.is("the nights in addition", longer.coins(0), 20 * 3);
    }

    private static void restOfTheDepositIsGivenBack() {
        due.sentence("A DAY 2: if the deposit is more, the rest of it is given back");
        int[] deposits = {19, 20, 21, 99};
        for (int deposit : deposits) {
            HutBookings hut = new HutBookings();
            hut.set(3, deposit);
            hut.book(0, 2, 3);
            due.is("with its deposit", hut.coins(0), deposit * 6);
            hut.pass(3);
            due.is("what it pays in all", hut.coins(0), 20 * 6);
            due.is("none is held", hut.coins(1), 0);
            due.is("none was kept", hut.coins(2), 0);
            due.is("its deposit is told still", hut.booking(0, 7), deposit * 6);
        }
    }

    private static void endOfTheDayIsTurnedAway() {
        due.sentence("A DAY 3: booked and the end is d or earlier: turned away, and the deposit given back");
        HutBookings hut = new HutBookings();
        hut.book(0, 1, 2);
        hut.book(0, 2, 3);
        hut.weather(0, 0, 1);
        hut.pass(1);
        due.is("not before its end", hut.booking(0, 0), 0);
        due.is("its deposit is held", hut.coins(1), 40);
        hut.pass(1);
        due.is("an end of the day, though the way up is open", hut.booking(0, 0), 4);
        due.is("an end of the next day", hut.booking(1, 0), 1);
        due.is("persons", hut.count(22), 2);
        due.is("given back", hut.coins(0), 30);
        due.is("it was not kept", hut.coins(2), 0);
        HutBookings closed = new HutBookings();
        closed.book(0, 1, 2);
        closed.weather(0, 1, 3);
        closed.pass(2);
        due.is("while both ways are closed", closed.booking(0, 0), 4);
        due.is("given back", closed.coins(0), 0);
    }

    private static void arrivesOnTheDayOrEarlier() {
        due.sentence("A DAY 4: each group that is booked and arrives on d, or should have arrived earlier, comes");
        HutBookings hut = new HutBookings();
        hut.book(0, 3, 1);
        hut.book(1, 3, 1);
        hut.book(2, 3, 1);
        hut.weather(0, 0, 1);
        hut.pass(2);
        due.is("should have arrived earlier", hut.booking(0, 8), 1);
        due.is("arrives on the day", hut.booking(1, 8), 1);
        due.is("arrives on the next", hut.booking(2, 8), NONE);
        due.is("it is booked", hut.booking(2, 0), 0);
    }

    private static void comesNotWhileTheWayUpIsClosed() {
        due.sentence("A DAY 4: If the way up is open");
        HutBookings hut = new HutBookings();
        hut.set(0, 1);
        hut.set(1, 0);
        hut.book(0, 1, 1);
        hut.book(1, 2, 1);
        hut.weather(1, 1, 3);
        hut.weather(2, 2, 6);
        hut.pass(2);
        due.is("neither comes nor is turned away", hut.booking(1, 0), 0);
        hut.pass(1);
        due.is("neither the way down nor the wind keeps it, but there is no room", hut.booking(1, 0), 4);
    }

    private static void notMoreThanBedsAndMattresses() {
        due.sentence("A DAY 4: if its persons and all that are there are not more than beds and mattresses together");
        for (int more = 0; more < 2; more++) {
            HutBookings hut = new HutBookings();
            hut.set(0, 5);
            hut.set(1, 3);
            hut.book(0, 1, 5);
            hut.book(1, 1, 3 + more);
            hut.weather(1, 1, 2);
            hut.pass(2);
            due.is(more + " more than there is room for", hut.booking(1, 0), more == 0 ? 1 : 4);
            due.is("persons there", hut.count(7), more == 0 ? 8 : 5);
            due.is("on mattresses", hut.count(8), more == 0 ? 3 : 0);
            due.is("persons turned away", hut.count(22), more == 0 ? 0 : 4);
        }
    }

    private static void byNumbers() {
        due.sentence("A DAY 4: comes, by numbers");
        HutBookings hut = new HutBookings();
        hut.set(0, 6);
        hut.set(1, 0);
        hut.book(0, 1, 3);
        hut.book(3, 1, 2);
        hut.book(2, 3, 2);
        hut.book(3, 1, 1);
        hut.weather(1, 3, 2);
        hut.weather(2, 2, 3);
        hut.pass(4);
        due.is("the lower number, which arrives later", hut.booking(1, 0), 1);
        due.is("no room for the next", hut.booking(2, 0), 4);
        due.is("room for a smaller one behind it", hut.booking(3, 0), 1);
        due.is("all places", hut.count(7), 6);
    }

    private static void leavesBeforeOthersCome() {
        due.sentence("A DAY: who leaves in the step 2 makes room in the step 4");
        HutBookings hut = new HutBookings();
        hut.set(0, 4);
        hut.set(1, 0);
        hut.book(0, 1, 4);
        hut.book(1, 1, 4);
        hut.pass(2);
        due.is("the first is gone", hut.booking(0, 0), 2);
        due.is("the second is there", hut.booking(1, 0), 1);
        due.sentence("A DAY: who is taken down in the step 6 does not make room in the step 4");
        HutBookings flown = new HutBookings();
        flown.set(0, 3);
        flown.set(1, 0);
        flown.book(0, 1, 3);
        flown.book(1, 1, 3);
        flown.weather(1, 1, 2);
        flown.pass(1);
        flown.flight(true);
        flown.pass(1);
        due.is("the first is gone", flown.booking(0, 0), 2);
        due.is("the second was turned away", flown.booking(1, 0), 4);
    }

    private static void turnedAwayGetsTheDepositBack() {
        due.sentence("A DAY 4: otherwise it is turned away, and gets the deposit back");
        HutBookings hut = new HutBookings();
        hut.set(0, 4);
        hut.set(1, 0);
        hut.book(0, 1, 4);
        hut.book(1, 2, 3);
        hut.weather(1, 1, 2);
        hut.pass(1);
        due.is("two deposits", hut.coins(1), 20 + 30);
        hut.pass(1);
        due.is("turned away", hut.booking(1, 0), 4);
        due.is("one deposit", hut.coins(1), 20);
        due.is("the hut has it", hut.coins(0), 20);
        due.is("none was kept", hut.coins(2), 0);
        due.is("its nights are free", hut.day(2, 0), 0);
        due.is("it is not there", hut.count(7), 4);
    }

    private static void moreThereThanPlaces() {
        due.sentence("A DAY 4: if there are more persons than beds and mattresses already");
        HutBookings hut = new HutBookings();
        hut.book(0, 1, 9);
        hut.book(1, 1, 1);
        hut.weather(1, 1, 2);
        hut.pass(1);
        hut.set(0, 1);
        hut.set(1, 0);
        hut.pass(1);
        due.is("no room", hut.booking(1, 0), 4);
        due.is("those there stay", hut.count(7), 9);
        due.is("they are on mattresses", hut.count(8), 8);
    }

    private static void freshFoodIsSpoilt() {
        due.sentence("A DAY 1: Fresh food that came on the day d less the setting 5 is spoilt");
        int[] keeps = {1, 2, 4, 29, 30};
        for (int days : keeps) {
            HutBookings hut = new HutBookings();
            hut.set(5, days);
            hut.order(0, 24);
            hut.pass(days);
            due.is("the day before, of " + days, hut.count(18), 0);
            hut.pass(1);
            due.is("on the day, of " + days, hut.count(18), 12);
            due.is("that of the next day is there", hut.fresh(0, 0), 1);
            due.is("and nothing else", hut.fresh(1, 0), NONE);
            hut.pass(1);
            due.is("on the next day", hut.count(18), 24);
            due.is("nothing is left", hut.count(9), 0);
        }
    }

    private static void freshFoodOrEarlierIsSpoilt() {
        due.sentence("A DAY 1: or earlier, is spoilt, and is thrown away");
        for (int keeps = 1; keeps <= 4; keeps++) {
            HutBookings hut = new HutBookings();
            hut.order(0, 30);
            hut.pass(3);
            due.is("three days' food", hut.count(9), 30);
            hut.set(5, keeps);
            hut.pass(1);
            int[] spoilt = {30, 24, 12, 0};
            due.is("spoilt if it keeps for " + keeps, hut.count(18), spoilt[keeps - 1]);
            due.is("left", hut.count(9), 30 - spoilt[keeps - 1]);
            due.is("the earliest", hut.fresh(0, 0), keeps == 1 ? NONE : 4 - keeps);
        }
        HutBookings old = new HutBookings();
        old.set(5, 30);
        old.order(0, 12);
        old.order(1, 12);
        old.pass(30);
        old.set(5, 1);
        old.pass(1);
        due.is("as old as can be", old.count(18), 12);
        due.is("dry food keeps", old.count(10), 12);
    }

    private static void freshFoodIsKnownByItsDay() {
        due.sentence("FOOD: portions of fresh food, which is known by the day on which it came");
        HutBookings hut = new HutBookings();
        hut.set(5, 30);
        hut.set(6, 1);
        hut.order(0, 40);
        hut.pass(30);
        for (int rank = 0; rank < 30; rank++) {
            due.is("its day", hut.fresh(rank, 0), rank);
            due.is("its portions", hut.fresh(rank, 1), 1);
        }
        due.is("no 31st day", hut.fresh(30, 0), NONE);
        hut.pass(7);
        due.is("the earliest of 30", hut.fresh(0, 0), 7);
        due.is("the latest of 30", hut.fresh(29, 0), 36);
        due.is("spoilt", hut.count(18), 7);
        HutBookings both = new HutBookings();
        both.order(0, 5);
        both.order(1, 2);
        both.order(0, 30);
        both.flight(true);
        both.pass(1);
        due.is("two orders and a flight of one day are one", both.fresh(0, 1), 30);
        due.is("and no other", both.fresh(1, 1), NONE);
    }

    private static void spoiltBeforeItIsEaten() {
        due.sentence("A DAY: what spoils in the step 1 is not eaten in the step 7");
        HutBookings hut = new HutBookings();
        hut.set(5, 2);
        hut.order(0, 5);
        hut.book(2, 1, 3);
        hut.pass(3);
        due.is("spoilt", hut.count(18), 5);
        due.is("hungry", hut.count(19), 3);
        due.is("eaten", hut.count(17), 0);
    }

    private static void carriedAsManyAtMost() {
        due.sentence("A DAY 5: as many as the setting 6 at most");
        for (int more = -1; more <= 1; more++) {
            HutBookings hut = new HutBookings();
            hut.order(1, 12 + more);
            hut.pass(1);
            due.is("brought", hut.count(16), Math.min(12, 12 + more));
            due.is("orders that wait", hut.count(11), more == 1 ? 1 : 0);
            due.is("portions that wait", hut.count(12), more == 1 ? 1 : 0);
            due.is("left of the first", hut.waiting(0, 1), more == 1 ? 1 : NONE);
        }
        HutBookings empty = new HutBookings();
        empty.pass(1);
        due.is("nothing is ordered", empty.count(16), 0);
    }

    private static void carriedFirstOrderFirst() {
        due.sentence("A DAY 5: those of the first order first, and so on");
        HutBookings hut = new HutBookings();
        hut.order(0, 5);
        hut.order(1, 4);
        hut.order(0, 9);
        hut.order(1, 9);
        hut.pass(1);
        due.is("fresh", hut.count(9), 8);
        due.is("dry", hut.count(10), 4);
        due.is("left of the third", hut.waiting(0, 1), 6);
        due.is("its kind", hut.waiting(0, 0), 0);
        due.is("left of the fourth", hut.waiting(1, 1), 9);
        HutBookings twelve = new HutBookings();
        for (int i = 0; i < 12; i++) {
            twelve.order(i % 2, 1);
        }
        twelve.pass(1);
        due.is("twelve orders on one day", twelve.count(11), 0);
        due.is("fresh", twelve.count(9), 6);
        due.is("dry", twelve.count(10), 6);
    }

    private static void orderOfWhichNoneIsLeft() {
        due.sentence("A DAY 5: an order of which none is left is gone from the row");
        HutBookings hut = new HutBookings();
        hut.order(1, 12);
        hut.order(0, 7);
        hut.pass(1);
        due.is("one order waits", hut.count(11), 1);
        due.is("the second is the first", hut.waiting(0, 0), 0);
        due.is("all of it is left", hut.waiting(0, 1), 7);
        due.is("there is no second", hut.waiting(1, 0), NONE);
    }

    private static void carriedOnlyIfTheWayUpIsOpen() {
        due.sentence("A DAY 5: If the way up is open");
        HutBookings hut = new HutBookings();
        hut.order(1, 30);
        hut.weather(0, 0, 1);
        hut.weather(1, 1, 6);
        hut.pass(1);
        due.is("none while it is closed", hut.count(16), 0);
        hut.pass(1);
        due.is("neither the way down nor the wind keeps them", hut.count(16), 12);
    }

    private static void eachEatsAPortion() {
        due.sentence("A DAY 7: As many as there are no portions for are hungry");
        for (int portions = 1; portions <= 5; portions++) {
            for (int kind = 0; kind < 2; kind++) {
                HutBookings hut = new HutBookings();
                hut.order(kind, portions);
                hut.book(0, 1, 4);
                hut.pass(1);
                due.is("eaten of " + portions, hut.count(17), Math.min(4, portions));
                due.is("hungry", hut.count(19), Math.max(0, 4 - portions));
                due.is("left", hut.count(9 + kind), Math.max(0, portions - 4));
            }
        }
        HutBookings none = new HutBookings();
        none.book(0, 2, 4);
        none.pass(2);
        due.is("nothing at all, twice", none.count(19), 8);
        HutBookings nobody = new HutBookings();
        nobody.order(1, 4);
        nobody.pass(1);
        due.is("nobody eats", nobody.count(17), 0);
        due.is("nobody is hungry", nobody.count(19), 0);
    }

    private static void freshEarliestFirstThenDry() {
        due.sentence("A DAY 7: of fresh food, the earliest first, then of dry food");
        HutBookings hut = new HutBookings();
        hut.set(6, 3);
        hut.order(0, 6);
        hut.order(1, 3);
        hut.pass(3);
        hut.book(3, 3, 4);
        hut.pass(1);
        due.is("the first day's is gone", hut.fresh(0, 0), 1);
        due.is("one of the second day's was eaten", hut.fresh(0, 1), 2);
        due.is("no dry food", hut.count(10), 3);
        hut.pass(1);
        due.is("the fresh is gone", hut.count(9), 0);
        due.is("two of the dry", hut.count(10), 1);
        hut.pass(1);
        due.is("the last of the dry", hut.count(10), 0);
        due.is("hungry", hut.count(19), 3);
        HutBookings today = new HutBookings();
        today.order(1, 12);
        today.order(0, 2);
        today.pass(1);
        today.book(1, 1, 5);
        today.pass(1);
        due.is("fresh food of today before dry food of yesterday", today.count(9), 0);
        due.is("dry", today.count(10), 9);
        HutBookings oldest = new HutBookings();
        oldest.set(5, 30);
        oldest.set(6, 1);
        oldest.order(0, 31);
        oldest.pass(29);
        oldest.book(29, 1, 2);
        oldest.pass(1);
        due.is("the oldest that keeps", oldest.fresh(0, 0), 2);
        due.is("the newest is there", oldest.fresh(27, 0), 29);
    }

    private static void whoEatsOnTheDay() {
        due.sentence("A DAY 7: Each person who is there: who came today does, who left today does not");
        HutBookings hut = new HutBookings();
        hut.order(1, 50);
        hut.book(0, 1, 2);
        hut.book(1, 1, 3);
        hut.pass(1);
        due.is("two", hut.count(17), 2);
        hut.pass(1);
        due.is("three more", hut.count(17), 5);
        hut.pass(1);
        due.is("none more", hut.count(17), 5);
    }

    private static void fliesIfCalledAndNotTooMuchWind() {
        due.sentence("A DAY 6: If a flight is called and there is not too much wind, it flies");
        HutBookings hut = new HutBookings();
        hut.pass(1);
        due.is("none was called", hut.count(14), 0);
        hut.weather(1, 1, 4);
        hut.weather(2, 2, 3);
        hut.flight(true);
        hut.pass(1);
        due.is("too much wind", hut.count(14), 0);
        due.is("it is called still", hut.count(13), 1);
        due.is("it costs nothing yet", hut.coins(3), 0);
        hut.pass(1);
        due.is("it flew while both ways were closed", hut.count(14), 1);
        due.is("it is not called", hut.count(13), 0);
        hut.flight(true);
        hut.flight(false);
        hut.pass(1);
        due.is("it was called off", hut.count(14), 1);
    }

    private static void flightBringsAsManyAtMost() {
        due.sentence("A DAY 6: it brings portions of orders likewise, as many as the setting 7 at most");
        for (int more = -1; more <= 1; more++) {
            HutBookings hut = new HutBookings();
            hut.set(6, 0);
            hut.order(1, 15);
            hut.order(0, 5 + more);
            hut.flight(true);
            hut.pass(1);
            due.is("dry", hut.count(10), 15);
            due.is("fresh", hut.count(9), Math.min(5, 5 + more));
            due.is("orders that wait", hut.count(11), more == 1 ? 1 : 0);
        }
        HutBookings both = new HutBookings();
        both.order(1, 33);
        both.flight(true);
        both.pass(1);
        due.is("what is carried does not count", both.count(10), 32);
        HutBookings empty = new HutBookings();
        empty.flight(true);
        empty.pass(1);
        due.is("nothing is ordered", empty.count(16), 0);
        due.is("it flew", empty.count(14), 1);
    }

    private static void takesWhoIsStranded() {
        due.sentence("A DAY 6: groups that are stranded (there, with an end of d or earlier)");
        HutBookings hut = new HutBookings();
        hut.set(8, 20);
        hut.book(0, 1, 1);
        hut.book(0, 2, 1);
        hut.book(0, 3, 1);
        hut.book(2, 1, 1);
        hut.weather(1, 2, 2);
        hut.pass(2);
        hut.flight(true);
        hut.pass(1);
        due.is("an end of the day before", hut.booking(0, 0), 2);
        due.is("an end of the day", hut.booking(1, 0), 2);
        due.is("an end of the next day", hut.booking(2, 0), 1);
        due.is("came on the day", hut.booking(3, 0), 1);
        due.is("taken down", hut.count(15), 2);
    }

    private static void seatsAreFilledByNumbers() {
        due.sentence("A DAY 6: by numbers, each one whose persons have seats yet");
        int[] persons = {0, 1, 2, 3, 4, 5, 6, 6};
        for (int seats = 0; seats < 8; seats++) {
            HutBookings hut = new HutBookings();
            hut.set(8, seats);
            hut.book(0, 1, 3);
            hut.book(0, 1, 2);
            hut.book(0, 1, 1);
            hut.weather(1, 1, 2);
            hut.pass(1);
            hut.flight(true);
            hut.pass(1);
            due.is("taken down by " + seats + " seats", hut.count(15), persons[seats]);
            due.is("the first of three", hut.booking(0, 0), seats >= 3 ? 2 : 1);
            due.is("the second of two", hut.booking(1, 0), seats == 2 || seats >= 5 ? 2 : 1);
            due.is("the third of one", hut.booking(2, 0), seats == 1 || seats == 4 || seats >= 6 ? 2 : 1);
        }
    }

    private static void whoHasNoSeatsIsPassedOver() {
        due.sentence("A DAY 6: a group that has not is passed over");
        HutBookings hut = new HutBookings();
        hut.set(8, 4);
        hut.book(0, 1, 1);
        hut.book(0, 1, 4);
        hut.book(0, 1, 2);
        hut.book(0, 1, 2);
        hut.book(0, 1, 1);
        hut.weather(1, 2, 2);
        hut.pass(1);
        hut.flight(true);
        hut.pass(1);
        int[] how = {2, 1, 2, 1, 2};
        for (int booking = 0; booking < 5; booking++) {
            due.is("how " + booking + " is", hut.booking(booking, 0), how[booking]);
        }
        due.is("taken down", hut.count(15), 4);
        hut.flight(true);
        hut.pass(1);
        due.is("the next flight takes it", hut.booking(1, 0), 2);
        due.is("and not the other", hut.booking(3, 0), 1);
        due.is("taken down", hut.count(15), 8);
    }

    private static void takenDownPayAsWalking() {
        due.sentence("A DAY 6: they leave and pay as in 2");
        HutBookings hut = new HutBookings();
        hut.set(9, 0);
        hut.book(0, 1, 2);
        hut.weather(1, 9, 2);
        hut.pass(3);
        hut.set(2, 7);
        hut.flight(true);
        hut.pass(1);
        due.is("gone", hut.booking(0, 0), 2);
        due.is("one night, at the price of that day", hut.coins(0), 14);
        HutBookings back = new HutBookings();
        back.set(9, 0);
        back.set(2, 1);
        back.book(0, 1, 2);
        back.weather(1, 9, 2);
        back.pass(1);
        back.flight(true);
        back.pass(1);
        due.is("the rest of its deposit was given back", back.coins(0), 2);
    }

    private static void takenDownNeitherEatNorSleep() {
        due.sentence("A DAY: who is taken down in the step 6 neither eats in the step 7 nor sleeps in the step 8");
        HutBookings hut = new HutBookings();
        hut.book(0, 1, 2);
        hut.weather(1, 1, 2);
        hut.pass(1);
        hut.flight(true);
        hut.pass(1);
        due.is("hungry on the day before alone", hut.count(19), 2);
        due.is("slept on the day before alone", hut.count(21), 2);
        due.is("its nights", hut.booking(0, 5), 1);
        due.is("not stranded for a night", hut.count(20), 0);
    }

    private static void costsAndIsNotCalledAnyMore() {
        due.sentence("A DAY 6: It costs the coins of the setting 9, and is not called any more");
        HutBookings hut = new HutBookings();
        hut.flight(true);
        hut.pass(1);
        due.is("one", hut.coins(3), 100);
        due.is("not called", hut.count(13), 0);
        hut.set(9, 7);
        hut.pass(1);
        due.is("none more", hut.coins(3), 100);
        hut.flight(true);
        hut.pass(2);
        due.is("a second one", hut.coins(3), 107);
        due.is("less than nothing", hut.coins(0), -107);
        due.is("flights", hut.count(14), 2);
    }

    private static void eachSleepsOneNight() {
        due.sentence("A DAY 8: Each group that is there has slept one night more");
        HutBookings hut = new HutBookings();
        hut.book(0, 2, 3);
        hut.book(1, 1, 1);
        hut.pass(1);
        due.is("one night", hut.booking(0, 5), 1);
        due.is("not there yet", hut.booking(1, 5), 0);
        due.is("by persons", hut.count(21), 3);
        hut.pass(1);
        due.is("two nights", hut.booking(0, 5), 2);
        due.is("the night of its arrival", hut.booking(1, 5), 1);
        due.is("by persons", hut.count(21), 7);
        hut.pass(1);
        due.is("none as it leaves", hut.booking(0, 5), 2);
        due.is("by persons", hut.count(21), 7);
    }

    private static void endOfTheDayIsStranded() {
        due.sentence("A DAY 8: If its end is d or earlier, its persons are stranded for this night");
        HutBookings hut = new HutBookings();
        hut.book(0, 1, 1);
        hut.book(0, 2, 2);
        hut.book(0, 3, 4);
        hut.weather(0, 2, 2);
        hut.pass(1);
        due.is("an end of the next day", hut.count(20), 0);
        hut.pass(1);
        due.is("an end of the day", hut.count(20), 1);
        hut.pass(1);
        due.is("and an end of the day before", hut.count(20), 1 + 3);
        hut.pass(1);
        due.is("all left", hut.count(20), 4);
        due.is("all are gone", hut.count(4), 3);
    }

    private static void daysToPass() {
        due.sentence("Promise 10: days: 1 to 30");
        HutBookings hut = new HutBookings();
        due.is("no days", hut.pass(0), BAD_VALUE);
        due.is("31 days", hut.pass(31), BAD_VALUE);
        due.is("a day back", hut.pass(-1), BAD_VALUE);
        due.is("far too few", hut.pass(Integer.MIN_VALUE), BAD_VALUE);
        due.is("far too many", hut.pass(Integer.MAX_VALUE), BAD_VALUE);
        due.is("now", hut.count(0), 0);
        due.is("no state", hut.count(23), 0);
        due.is("one day", hut.pass(1), 1);
        due.is("30 days", hut.pass(30), 31);
        due.is("states", hut.count(23), 2);
    }

    private static void notPastTheLastDay() {
        due.sentence("Promise 10: FULL if it would be more than 999");
        HutBookings hut = new HutBookings();
        for (int i = 1; i <= 33; i++) {
            due.is("30 days", hut.pass(30), 30 * i);
        }
        due.is("to the day 1000", hut.pass(10), FULL);
        due.is("to the day 1020", hut.pass(30), FULL);
        due.is("a wrong value is told first", hut.pass(31), BAD_VALUE);
        due.is("now", hut.count(0), 990);
        due.is("to the day 999", hut.pass(9), 999);
        due.is("one day more", hut.pass(1), FULL);
        due.is("no days are a wrong value", hut.pass(0), BAD_VALUE);
        due.is("the last day is told", hut.day(999, 1), 10);
        due.is("its weather can be told", hut.weather(999, 999, 1), 1);
        due.is("now", hut.count(0), 999);
    }
}
