import java.util.function.Supplier;

/** ERRORS: a call that returns an error or NONE changes nothing, and neither does a call that only tells. */
public final class ErrorEdgesTest {
    private static final int UNKNOWN = HutBookings.UNKNOWN;
    private static final int BAD_VALUE = HutBookings.BAD_VALUE;
    private static final int FULL = HutBookings.FULL;
    private static final int NOT_POSSIBLE = HutBookings.NOT_POSSIBLE;
    private static final int NONE = HutBookings.NONE;
    private static final long MINUS_ONE = Double.doubleToLongBits(-1.0);

    private static final Due due = new Due("ErrorEdgesTest");

    public static void main(String[] args) {
        refusedBookings();
        refusedTexts();
        refusedSupplies();
        refusedDaysAndSettings();
        refusedByAnEmptyHut();
        refusedWhereItIsFull();
        refusedOnTheLastDay();
        refusedQuestions();
        answeredQuestions();
        due.end();
    }

    /** A hut before a call; what it would tell then, if nothing more is done, and if it goes back. */
    private static final class Scene {
        private static final int UNDONE = 4;
        private static final int RESTORED = 5;
        private static final int BOOKED = 6;
        private static final int LATERS = 7;

        private final Supplier<HutBookings> maker;
        private final long[][] told = new long[LATERS][];

        Scene(Supplier<HutBookings> maker) {
            this.maker = maker;
            for (int later = 0; later < LATERS; later++) {
                told[later] = toldAfter(null, later);
            }
        }

        void unchangedBy(String name, Told.Call call, long answer) {
            due.is(name, call.on(maker.get()), answer);
            for (int later = 0; later < LATERS; later++) {
                String difference = Told.difference(toldAfter(call, later), told[later]);
                due.holds(name + " changes nothing that is told " + later + " later: " + difference,
                    difference.isEmpty());
            }
        }

        private long[] toldAfter(Told.Call call, int later) {
            return Told.by(() -> {
                HutBookings hut = maker.get();
                if (call != null) {
                    call.on(hut);
                }
                for (int i = 0; i < later && later <= UNDONE; i++) {
                    hut.undo();
                }
                if (later == RESTORED) {
                    hut.restore();
                }
                if (later == BOOKED) {
                    hut.bookAll();
                }
                return hut;
            });
        }
    }

    /**
     * On the day 4: 0 is gone, 1 is there and stranded, 2 is turned away, 3 is there until the day 6,
     * 4 is cancelled, 5 is booked for the day 9, 6 is booked for the day 7.
     */
    private static HutBookings busy(String text) {
        HutBookings hut = new HutBookings();
        hut.set(0, 6);
        hut.set(1, 2);
        hut.weather(2, 4, 2);
        hut.weather(6, 7, 4);
        hut.book(0, 1, 1);
        hut.book(0, 2, 4);
        hut.book(2, 1, 5);
        hut.book(3, 3, 2);
        hut.book(8, 2, 3);
        hut.book(9, 2, 3);
        hut.book(7, 1, 5);
        hut.cancel(4);
        hut.order(0, 30);
        hut.order(1, 40);
        hut.keep();
        hut.order(0, 20);
        hut.pass(4);
        hut.flight(true);
        hut.set(2, 30);
        for (char character : text.toCharArray()) {
            hut.type(character);
        }
        return hut;
    }

    private static HutBookings busy() {
        return busy("12+1x1");
    }

    private static HutBookings late() {
        HutBookings hut = new HutBookings();
        hut.book(899, 9, 9);
        hut.weather(905, 999, 2);
        hut.order(1, 99);
        for (int i = 0; i < 33; i++) {
            hut.pass(30);
        }
        hut.pass(9);
        return hut;
    }

    private static void refusedBookings() {
        due.sentence("ERRORS: a call that returns an error changes nothing: book, cancel, extend");
        Scene scene = new Scene(ErrorEdgesTest::busy);
        int[] how = {2, 1, 4, 1, 3, 0, 0};
        for (int booking = 0; booking < how.length; booking++) {
            due.is("how it is", busy().booking(booking, 0), how[booking]);
        }
        scene.unchangedBy("book yesterday", hut -> hut.book(3, 1, 1), BAD_VALUE);
        scene.unchangedBy("book the day 900", hut -> hut.book(900, 1, 1), BAD_VALUE);
        scene.unchangedBy("book no nights", hut -> hut.book(20, 0, 1), BAD_VALUE);
        scene.unchangedBy("book 10 nights", hut -> hut.book(20, 10, 1), BAD_VALUE);
        scene.unchangedBy("book nobody", hut -> hut.book(20, 1, 0), BAD_VALUE);
        scene.unchangedBy("book 10 persons", hut -> hut.book(20, 1, 10), BAD_VALUE);
        scene.unchangedBy("book without beds", hut -> hut.book(8, 3, 4), NOT_POSSIBLE);
        scene.unchangedBy("cancel -1", hut -> hut.cancel(-1), UNKNOWN);
        scene.unchangedBy("cancel 7", hut -> hut.cancel(7), UNKNOWN);
        for (int i = 0; i < 5; i++) {
            int booking = i;
            scene.unchangedBy("cancel " + booking, hut -> hut.cancel(booking), NOT_POSSIBLE);
        }
        scene.unchangedBy("extend -1", hut -> hut.extend(-1, 1), UNKNOWN);
        scene.unchangedBy("extend 7", hut -> hut.extend(7, 1), UNKNOWN);
        scene.unchangedBy("extend by no nights", hut -> hut.extend(3, 0), BAD_VALUE);
        scene.unchangedBy("extend by 10 nights", hut -> hut.extend(3, 10), BAD_VALUE);
        scene.unchangedBy("extend to 10 nights", hut -> hut.extend(3, 7), NOT_POSSIBLE);
        scene.unchangedBy("extend without beds", hut -> hut.extend(3, 2), NOT_POSSIBLE);
        scene.unchangedBy("extend who is stranded", hut -> hut.extend(1, 1), NOT_POSSIBLE);
        scene.unchangedBy("extend who is gone", hut -> hut.extend(0, 1), NOT_POSSIBLE);
        scene.unchangedBy("extend who is turned away", hut -> hut.extend(2, 1), NOT_POSSIBLE);
        scene.unchangedBy("extend who is cancelled", hut -> hut.extend(4, 1), NOT_POSSIBLE);
        scene.unchangedBy("extend who is booked", hut -> hut.extend(5, 1), NOT_POSSIBLE);
    }

    private static void refusedTexts() {
        due.sentence("ERRORS: a call that returns an error changes nothing: bookAll, type");
        Scene none = new Scene(() -> busy(""));
        none.unchangedBy("bookAll of none", HutBookings::bookAll, -100);
        Scene early = new Scene(() -> busy("12+1x1;13+1x"));
        early.unchangedBy("bookAll that ends too early", HutBookings::bookAll, -112);
        Scene wrong = new Scene(() -> busy("12+1x1;900+1x1"));
        wrong.unchangedBy("bookAll with a fault", HutBookings::bookAll, -109);
        Scene past = new Scene(() -> busy("12+1x1;3+1x1"));
        past.unchangedBy("bookAll of the past", HutBookings::bookAll, BAD_VALUE);
        Scene beds = new Scene(() -> busy("12+1x1;13+1x6;8+3x4;14+1x1"));
        beds.unchangedBy("bookAll without beds", HutBookings::bookAll, NOT_POSSIBLE);
        Scene sixty = new Scene(() -> busy("12+1x1;".repeat(8) + "13+1"));
        due.is("sixty characters", busy("12+1x1;".repeat(8) + "13+1").count(24), 60);
        sixty.unchangedBy("type", hut -> hut.type('x'), FULL);
    }

    private static void refusedSupplies() {
        due.sentence("ERRORS: a call that returns an error or NONE changes nothing: weather, order, flight");
        Scene scene = new Scene(ErrorEdgesTest::busy);
        scene.unchangedBy("weather of yesterday", hut -> hut.weather(3, 9, 1), BAD_VALUE);
        scene.unchangedBy("weather to the day before", hut -> hut.weather(9, 8, 1), BAD_VALUE);
        scene.unchangedBy("weather to 1000", hut -> hut.weather(9, 1000, 1), BAD_VALUE);
        scene.unchangedBy("weather -1", hut -> hut.weather(9, 12, -1), BAD_VALUE);
        scene.unchangedBy("weather 8", hut -> hut.weather(9, 12, 8), BAD_VALUE);
        scene.unchangedBy("weather as it is", hut -> hut.weather(6, 7, 4), NONE);
        scene.unchangedBy("fair weather as it is", hut -> hut.weather(8, 999, 0), NONE);
        scene.unchangedBy("order the kind -1", hut -> hut.order(-1, 5), BAD_VALUE);
        scene.unchangedBy("order the kind 2", hut -> hut.order(2, 5), BAD_VALUE);
        scene.unchangedBy("order none", hut -> hut.order(0, 0), BAD_VALUE);
        scene.unchangedBy("order 100", hut -> hut.order(1, 100), BAD_VALUE);
        scene.unchangedBy("call the flight again", hut -> hut.flight(true), NONE);
    }

    private static void refusedDaysAndSettings() {
        due.sentence("ERRORS: a call that returns an error or NONE changes nothing: pass, set");
        Scene scene = new Scene(ErrorEdgesTest::busy);
        scene.unchangedBy("pass no days", hut -> hut.pass(0), BAD_VALUE);
        scene.unchangedBy("pass 31 days", hut -> hut.pass(31), BAD_VALUE);
        scene.unchangedBy("set -1", hut -> hut.set(-1, 1), BAD_VALUE);
        scene.unchangedBy("set 10", hut -> hut.set(10, 1), BAD_VALUE);
        int[] least = {1, 0, 0, 0, 0, 1, 0, 0, 0, 0};
        int[] most = {40, 20, 99, 99, 30, 30, 50, 99, 20, 999};
        int[] now = {6, 2, 30, 5, 3, 4, 12, 20, 3, 100};
        for (int i = 0; i < 10; i++) {
            int which = i;
            scene.unchangedBy("set too little", hut -> hut.set(which, least[which] - 1), BAD_VALUE);
            scene.unchangedBy("set too much", hut -> hut.set(which, most[which] + 1), BAD_VALUE);
            scene.unchangedBy("set as it is", hut -> hut.set(which, now[which]), NONE);
        }
        scene.unchangedBy("set too few beds", hut -> hut.set(0, 4), NOT_POSSIBLE);
    }

    private static void refusedByAnEmptyHut() {
        due.sentence("ERRORS: a call that returns an error or NONE changes nothing: in an empty hut");
        Scene empty = new Scene(HutBookings::new);
        empty.unchangedBy("undo", HutBookings::undo, NONE);
        empty.unchangedBy("restore", HutBookings::restore, NONE);
        empty.unchangedBy("recall", HutBookings::recall, NONE);
        empty.unchangedBy("call off", hut -> hut.flight(false), NONE);
        empty.unchangedBy("bookAll", HutBookings::bookAll, -100);
        empty.unchangedBy("clearText of none", HutBookings::clearText, 0);
        empty.unchangedBy("cancel", hut -> hut.cancel(0), UNKNOWN);
        empty.unchangedBy("extend", hut -> hut.extend(0, 1), UNKNOWN);
        empty.unchangedBy("weather", hut -> hut.weather(0, 999, 0), NONE);
        empty.unchangedBy("set", hut -> hut.set(0, 10), NONE);
        Scene unkept = new Scene(() -> {
            HutBookings hut = new HutBookings();
            hut.book(0, 2, 3);
            hut.pass(1);
            return hut;
        });
        unkept.unchangedBy("restore", HutBookings::restore, NONE);
        unkept.unchangedBy("recall", HutBookings::recall, NONE);
        Scene undone = new Scene(() -> {
            HutBookings hut = new HutBookings();
            hut.keep();
            for (int i = 0; i < 5; i++) {
                hut.book(i, 2, 3);
            }
            for (int i = 0; i < 4; i++) {
                hut.undo();
            }
            return hut;
        });
        undone.unchangedBy("undo", HutBookings::undo, NONE);
    }

    private static void refusedWhereItIsFull() {
        due.sentence("ERRORS: a call that returns an error changes nothing: where it is full");
        Scene eighty = new Scene(() -> {
            HutBookings hut = new HutBookings();
            hut.keep();
            for (int i = 0; i < 80; i++) {
                hut.book(5 + i, 1, 8);
            }
            for (char character : "5+1x1;6+1x1".toCharArray()) {
                hut.type(character);
            }
            return hut;
        });
        eighty.unchangedBy("book the 81st", hut -> hut.book(5, 1, 1), FULL);
        eighty.unchangedBy("bookAll the 81st", HutBookings::bookAll, FULL);
        eighty.unchangedBy("book without beds", hut -> hut.book(5, 1, 3), NOT_POSSIBLE);
        eighty.unchangedBy("cancel the 81st", hut -> hut.cancel(80), UNKNOWN);
        Scene twelve = new Scene(() -> {
            HutBookings hut = new HutBookings();
            for (int i = 1; i <= 12; i++) {
                hut.order(i % 2, i);
            }
            hut.keep();
            return hut;
        });
        twelve.unchangedBy("order the 13th", hut -> hut.order(1, 5), FULL);
        twelve.unchangedBy("order none", hut -> hut.order(1, 0), BAD_VALUE);
    }

    private static void refusedOnTheLastDay() {
        due.sentence("ERRORS: a call that returns an error changes nothing: on the last day");
        Scene last = new Scene(ErrorEdgesTest::late);
        due.is("now", late().count(0), 999);
        due.is("stranded", late().booking(0, 6), 1);
        last.unchangedBy("pass a day", hut -> hut.pass(1), FULL);
        last.unchangedBy("pass 30 days", hut -> hut.pass(30), FULL);
        last.unchangedBy("pass 31 days", hut -> hut.pass(31), BAD_VALUE);
        last.unchangedBy("book", hut -> hut.book(999, 1, 1), BAD_VALUE);
        last.unchangedBy("weather of the day before", hut -> hut.weather(998, 999, 0), BAD_VALUE);
        last.unchangedBy("firstFree", hut -> hut.firstFree(1, 1), NONE);
        last.unchangedBy("hungryIn", HutBookings::hungryIn, 1);
        last.unchangedBy("wanting", hut -> hut.wanting(60), 9);
        last.unchangedBy("goneIn", hut -> hut.goneIn(0), 2);
    }

    private static void refusedQuestions() {
        due.sentence("ERRORS: a question that is answered by an error or NONE changes nothing");
        Scene scene = new Scene(ErrorEdgesTest::busy);
        scene.unchangedBy("booking 7", hut -> hut.booking(7, 0), UNKNOWN);
        scene.unchangedBy("booking what 9", hut -> hut.booking(0, 9), BAD_VALUE);
        scene.unchangedBy("day 1000", hut -> hut.day(1000, 0), BAD_VALUE);
        scene.unchangedBy("fresh -1", hut -> hut.fresh(-1, 0), BAD_VALUE);
        scene.unchangedBy("fresh 30", hut -> hut.fresh(30, 0), NONE);
        scene.unchangedBy("waiting -1", hut -> hut.waiting(-1, 0), BAD_VALUE);
        scene.unchangedBy("waiting 12", hut -> hut.waiting(12, 0), NONE);
        scene.unchangedBy("count 35", hut -> hut.count(35), BAD_VALUE);
        scene.unchangedBy("coins 4", hut -> hut.coins(4), BAD_VALUE);
        scene.unchangedBy("use", hut -> Double.doubleToLongBits(hut.use(5, 4)), MINUS_ONE);
        scene.unchangedBy("refund 7", hut -> hut.refund(7), UNKNOWN);
        scene.unchangedBy("refund 0", hut -> hut.refund(0), NOT_POSSIBLE);
        scene.unchangedBy("firstFree", hut -> hut.firstFree(0, 1), BAD_VALUE);
        scene.unchangedBy("firstFree of none", hut -> hut.firstFree(1, 7), NONE);
        scene.unchangedBy("wanting 61", hut -> hut.wanting(61), BAD_VALUE);
        scene.unchangedBy("goneIn 7", hut -> hut.goneIn(7), UNKNOWN);
        scene.unchangedBy("goneIn 0", hut -> hut.goneIn(0), NOT_POSSIBLE);
        scene.unchangedBy("turnedAway 61", hut -> hut.turnedAway(61), BAD_VALUE);
        scene.unchangedBy("bestCall", HutBookings::bestCall, NONE);
        scene.unchangedBy("fault", HutBookings::fault, NONE);
    }

    private static void answeredQuestions() {
        due.sentence("HISTORY: what is no act changes nothing");
        Scene scene = new Scene(ErrorEdgesTest::busy);
        scene.unchangedBy("booking", hut -> hut.booking(5, 1), 9);
        scene.unchangedBy("day", hut -> hut.day(9, 0), 3);
        scene.unchangedBy("fresh", hut -> hut.fresh(0, 0), 1);
        scene.unchangedBy("waiting", hut -> hut.waiting(0, 0), 1);
        scene.unchangedBy("count", hut -> hut.count(0), 4);
        scene.unchangedBy("coins", hut -> hut.coins(3), 0);
        scene.unchangedBy("use", hut -> Double.doubleToLongBits(hut.use(9, 9)), Double.doubleToLongBits(0.5));
        scene.unchangedBy("refund", hut -> hut.refund(5), 30);
        scene.unchangedBy("firstFree", hut -> hut.firstFree(4, 4), 11);
        scene.unchangedBy("hungryIn", HutBookings::hungryIn, NONE);
        scene.unchangedBy("wanting", hut -> hut.wanting(60), 0);
        scene.unchangedBy("goneIn", hut -> hut.goneIn(3), 3);
        scene.unchangedBy("turnedAway", hut -> hut.turnedAway(60), 0);
        scene.unchangedBy("fullest", HutBookings::fullest, 7);
    }
}
