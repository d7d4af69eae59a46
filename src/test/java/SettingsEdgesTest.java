/** SETTINGS and promise 11: the range and the first value of each setting, and what its least and most do. */
public final class SettingsEdgesTest {
    private static final int BAD_VALUE = HutBookings.BAD_VALUE;
    private static final int NOT_POSSIBLE = HutBookings.NOT_POSSIBLE;
    private static final int NONE = HutBookings.NONE;

    private static final Due due = new Due("SettingsEdgesTest");

    public static void main(String[] args) {
        beds();
        mattresses();
        price();
        deposit();
        notice();
        freshKeeps();
        carried();
        flown();
        seats();
        flightCoins();
        which();
        soAlready();
        bedsThatAreTaken();
        bedsThatWereTaken();
        due.end();
    }

    private static void range(int which, int least, int most, int first) {
        HutBookings hut = new HutBookings();
        due.is("first value", hut.count(25 + which), first);
        due.is("one too little", hut.set(which, least - 1), BAD_VALUE);
        due.is("one too much", hut.set(which, most + 1), BAD_VALUE);
        due.is("far too little", hut.set(which, Integer.MIN_VALUE), BAD_VALUE);
        due.is("far too much", hut.set(which, Integer.MAX_VALUE), BAD_VALUE);
        due.is("still the first value", hut.count(25 + which), first);
        due.is("no state", hut.count(23), 0);
        due.is("set the least", hut.set(which, least), first);
        due.is("the least", hut.count(25 + which), least);
        due.is("one less than the least", hut.set(which, least - 1), BAD_VALUE);
        due.is("still the least", hut.count(25 + which), least);
        due.is("set the most", hut.set(which, most), least);
        due.is("the most", hut.count(25 + which), most);
        due.is("one more than the most", hut.set(which, most + 1), BAD_VALUE);
        due.is("still the most", hut.count(25 + which), most);
        due.is("states", hut.count(23), 2);
        for (int other = 0; other < 10; other++) {
            if (other != which) {
                due.is("the setting " + other, hut.count(25 + other), new HutBookings().count(25 + other));
            }
        }
    }

    private static void beds() {
        due.sentence("SETTINGS: 0 beds (1 to 40; 10)");
        range(0, 1, 40, 10);
        HutBookings one = new HutBookings();
        one.set(0, 1);
        due.is("two persons", one.book(0, 1, 2), NOT_POSSIBLE);
        due.is("one person", one.book(0, 1, 1), 0);
        due.is("a second one", one.book(0, 1, 1), NOT_POSSIBLE);
        HutBookings forty = new HutBookings();
        forty.set(0, 40);
        for (int i = 0; i < 4; i++) {
            due.is("nine persons", forty.book(5, 1, 9), i);
        }
        due.is("five more", forty.book(5, 1, 5), NOT_POSSIBLE);
        due.is("four more", forty.book(5, 1, 4), 4);
        due.is("the 41st", forty.book(5, 1, 1), NOT_POSSIBLE);
        due.is("none left", forty.day(5, 1), 0);
    }

    private static void mattresses() {
        due.sentence("SETTINGS: 1 mattresses (0 to 20; 4)");
        range(1, 0, 20, 4);
        HutBookings none = new HutBookings();
        none.set(0, 4);
        none.set(1, 0);
        none.book(0, 1, 4);
        none.book(1, 1, 1);
        none.weather(1, 1, 2);
        none.pass(2);
        due.is("no mattress for one", none.booking(1, 0), 4);
        HutBookings twenty = new HutBookings();
        twenty.set(0, 20);
        twenty.set(1, 20);
        for (int day = 0; day < 2; day++) {
            twenty.book(day, 1, 9);
            twenty.book(day, 1, 9);
            twenty.book(day, 1, 2);
        }
        twenty.book(2, 1, 1);
        twenty.weather(1, 2, 2);
        twenty.pass(2);
        due.is("all beds and mattresses", twenty.count(7), 40);
        due.is("on mattresses", twenty.count(8), 20);
        twenty.pass(1);
        due.is("the 41st is turned away", twenty.booking(6, 0), 4);
        due.is("on mattresses still", twenty.count(8), 20);
    }

    private static void price() {
        due.sentence("SETTINGS: 2 the price (0 to 99; 20) in coins of a person for a night");
        range(2, 0, 99, 20);
        HutBookings free = new HutBookings();
        free.set(2, 0);
        free.book(0, 1, 1);
        due.is("with its deposit", free.coins(0), 5);
        free.pass(2);
        due.is("all of it was given back", free.coins(0), 0);
        HutBookings dear = new HutBookings();
        dear.set(2, 99);
        dear.book(0, 9, 9);
        dear.pass(10);
        due.is("nine persons, nine nights", dear.coins(0), 99 * 81);
    }

    private static void deposit() {
        due.sentence("SETTINGS: 3 the deposit (0 to 99; 5) of a person for a night");
        range(3, 0, 99, 5);
        HutBookings free = new HutBookings();
        free.set(3, 0);
        free.book(0, 9, 9);
        due.is("no deposit", free.booking(0, 7), 0);
        due.is("no coins", free.coins(0), 0);
        HutBookings dear = new HutBookings();
        dear.set(3, 99);
        dear.book(0, 9, 9);
        due.is("deposit", dear.booking(0, 7), 99 * 81);
        due.is("it is held", dear.coins(1), 99 * 81);
        due.is("the hut has it", dear.coins(0), 99 * 81);
    }

    private static void notice() {
        due.sentence("SETTINGS: 4 the notice (0 to 30; 3) in days");
        range(4, 0, 30, 3);
        HutBookings none = new HutBookings();
        none.set(4, 0);
        none.book(0, 1, 2);
        due.is("on the day of arrival", none.refund(0), 10);
        HutBookings thirty = new HutBookings();
        thirty.set(4, 30);
        thirty.book(29, 1, 2);
        thirty.book(30, 1, 2);
        due.is("29 days away", thirty.refund(0), 0);
        due.is("30 days away", thirty.refund(1), 10);
    }

    private static void freshKeeps() {
        due.sentence("SETTINGS: 5 for how many days fresh food keeps (1 to 30; 4)");
        range(5, 1, 30, 4);
        HutBookings one = new HutBookings();
        one.set(5, 1);
        one.book(0, 1, 2);
        one.order(0, 12);
        one.pass(1);
        due.is("eaten on the day on which it came", one.count(17), 2);
        due.is("none spoilt on that day", one.count(18), 0);
        one.pass(1);
        due.is("spoilt on the next", one.count(18), 10);
        HutBookings thirty = new HutBookings();
        thirty.set(5, 30);
        thirty.order(0, 12);
        thirty.pass(30);
        due.is("29 days later it is there", thirty.count(9), 12);
        due.is("none spoilt", thirty.count(18), 0);
        thirty.pass(1);
        due.is("30 days later it is not", thirty.count(9), 0);
        due.is("spoilt", thirty.count(18), 12);
    }

    private static void carried() {
        due.sentence("SETTINGS: 6 portions that are carried up in a day (0 to 50; 12)");
        range(6, 0, 50, 12);
        HutBookings none = new HutBookings();
        none.set(6, 0);
        none.order(1, 5);
        none.pass(1);
        due.is("none came", none.count(16), 0);
        due.is("all wait", none.count(12), 5);
        HutBookings fifty = new HutBookings();
        fifty.set(6, 50);
        fifty.order(1, 51);
        fifty.pass(1);
        due.is("fifty came", fifty.count(16), 50);
        due.is("one waits", fifty.count(12), 1);
    }

    private static void flown() {
        due.sentence("SETTINGS: 7 portions that a flight brings (0 to 99; 20)");
        range(7, 0, 99, 20);
        HutBookings none = new HutBookings();
        none.set(6, 0);
        none.set(7, 0);
        none.order(1, 5);
        none.flight(true);
        none.pass(1);
        due.is("it flew", none.count(14), 1);
        due.is("none came", none.count(16), 0);
        due.is("all wait", none.count(12), 5);
        HutBookings most = new HutBookings();
        most.set(6, 0);
        most.set(7, 99);
        most.order(1, 60);
        most.order(1, 40);
        most.flight(true);
        most.pass(1);
        due.is("99 came", most.count(10), 99);
        due.is("one waits", most.count(12), 1);
    }

    private static void seats() {
        due.sentence("SETTINGS: 8 seats of a flight (0 to 20; 3)");
        range(8, 0, 20, 3);
        HutBookings none = new HutBookings();
        none.set(8, 0);
        none.book(0, 1, 1);
        none.weather(1, 1, 2);
        none.pass(1);
        none.flight(true);
        none.pass(1);
        due.is("it flew", none.count(14), 1);
        due.is("it took nobody", none.count(15), 0);
        HutBookings twenty = new HutBookings();
        twenty.set(0, 30);
        twenty.set(8, 20);
        twenty.book(0, 1, 9);
        twenty.book(0, 1, 9);
        twenty.book(0, 1, 3);
        twenty.book(0, 1, 2);
        twenty.book(0, 1, 1);
        twenty.weather(1, 1, 2);
        twenty.pass(1);
        twenty.flight(true);
        twenty.pass(1);
        due.is("it took twenty", twenty.count(15), 20);
        due.is("no seats for the 21st", twenty.booking(2, 0), 1);
        due.is("the last two seats", twenty.booking(3, 0), 2);
        due.is("none for one more", twenty.booking(4, 0), 1);
    }

    private static void flightCoins() {
        due.sentence("SETTINGS: 9 the coins of a flight (0 to 999; 100)");
        range(9, 0, 999, 100);
        HutBookings free = new HutBookings();
        free.set(9, 0);
        free.flight(true);
        free.pass(1);
        due.is("it flew", free.count(14), 1);
        due.is("it cost nothing", free.coins(3), 0);
        due.is("no coins", free.coins(0), 0);
        HutBookings dear = new HutBookings();
        dear.set(9, 999);
        dear.flight(true);
        dear.pass(1);
        due.is("it cost", dear.coins(3), 999);
        due.is("less than no coins", dear.coins(0), -999);
    }

    private static void which() {
        due.sentence("Promise 11: which: 0 to 9");
        HutBookings hut = new HutBookings();
        due.is("which -1", hut.set(-1, 5), BAD_VALUE);
        due.is("which 10", hut.set(10, 5), BAD_VALUE);
        due.is("far too little", hut.set(Integer.MIN_VALUE, 5), BAD_VALUE);
        due.is("far too much", hut.set(Integer.MAX_VALUE, 5), BAD_VALUE);
        due.is("no state", hut.count(23), 0);
        due.is("which 0", hut.set(0, 6), 10);
        due.is("which 9", hut.set(9, 6), 100);
    }

    private static void soAlready() {
        due.sentence("Promise 11: NONE if it is so already");
        int[] first = {10, 4, 20, 5, 3, 4, 12, 20, 3, 100};
        for (int which = 0; which < 10; which++) {
            HutBookings hut = new HutBookings();
            due.is("as at first", hut.set(which, first[which]), NONE);
            due.is("no state", hut.count(23), 0);
            due.is("one more", hut.set(which, first[which] + 1), first[which]);
            due.is("once more", hut.set(which, first[which] + 1), NONE);
            due.is("one state", hut.count(23), 1);
            due.is("one less", hut.set(which, first[which]), first[which] + 1);
        }
    }

    private static void bedsThatAreTaken() {
        due.sentence("Promise 11: NOT_POSSIBLE for the beds, if in some night from now on more are taken");
        HutBookings hut = new HutBookings();
        hut.book(899, 9, 3);
        due.is("one too few in the last night of all", hut.set(0, 2), NOT_POSSIBLE);
        due.is("still ten", hut.count(25), 10);
        due.is("one state", hut.count(23), 1);
        due.is("as many as are taken", hut.set(0, 3), 10);
        due.is("as many as are taken, once more", hut.set(0, 3), NONE);
        due.is("a value out of range comes first", hut.set(0, 0), BAD_VALUE);
        HutBookings now = new HutBookings();
        now.pass(2);
        now.book(2, 1, 5);
        due.is("one too few in the night of now", now.set(0, 4), NOT_POSSIBLE);
        due.is("other settings do not look at it", now.set(8, 0), 3);
        now.pass(1);
        due.is("the night is past", now.set(0, 1), 10);
    }

    private static void bedsThatWereTaken() {
        due.sentence("Promise 11: from that of the day of now on: who is stranded takes no bed");
        HutBookings hut = new HutBookings();
        hut.book(0, 2, 6);
        hut.weather(2, 2, 2);
        hut.pass(1);
        due.is("its last night", hut.set(0, 5), NOT_POSSIBLE);
        hut.pass(1);
        due.is("behind its last night", hut.set(0, 5), 10);
        hut.pass(1);
        due.is("still there", hut.count(7), 6);
        due.is("one of them on a mattress", hut.count(8), 1);
    }
}
