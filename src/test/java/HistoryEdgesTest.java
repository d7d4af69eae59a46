import java.util.function.Supplier;

/** HISTORY and promises 1, 15, 16 and 17: the edges of each sentence. */
public final class HistoryEdgesTest {
    private static final int NONE = HutBookings.NONE;
    private static final String[] ACTS = {
        "book", "bookAll", "cancel", "extend", "weather", "order", "recall", "flight", "pass", "set", "restore",
    };

    private static final Due due = new Due("HistoryEdgesTest");

    public static void main(String[] args) {
        newObject();
        emptyHistory();
        atMostFour();
        oldestIsDropped();
        droppedManyTimes();
        actsRecord();
        actsAreUndone();
        nothingIsLeft();
        noActsDoNotRecord();
        emptySnapshot();
        oneSnapshot();
        restoreIsAnAct();
        restoreBringsAllBack();
        stateIsNotTheText();
        stateIsNotTheHistory();
        stateIsNotTheSnapshot();
        due.end();
    }

    private static void newObject() {
        due.sentence("Promise 1: an empty hut, on the day 0");
        long[] told = Told.by(HutBookings::new);
        due.is("told", told.length > 1000 ? 1 : 0, 1);
        int[] first = {10, 4, 20, 5, 3, 4, 12, 20, 3, 100};
        for (int what = 0; what < 35; what++) {
            due.is("count(" + what + ")", told[what], what < 25 ? 0 : first[what - 25]);
        }
        for (int what = 0; what < 4; what++) {
            due.is("coins(" + what + ")", told[35 + what], 0);
        }
        for (int i = 39; i < 39 + 9 * 81; i++) {
            due.is("booking", told[i], HutBookings.UNKNOWN);
        }
        for (int i = 39 + 9 * 81; i < 39 + 9 * 81 + 2 * 31 + 2 * 13; i++) {
            due.is("fresh or waiting", told[i], NONE);
        }
        HutBookings hut = new HutBookings();
        due.is("nobody is hungry", hut.hungryIn(), NONE);
        due.is("no flight takes anybody", hut.bestCall(), NONE);
        due.is("no night is taken", hut.fullest(), NONE);
        due.is("the first free day", hut.firstFree(9, 9), 0);
        due.is("no history", hut.undo(), NONE);
        due.is("no snapshot", hut.restore(), NONE);
    }

    private static void emptyHistory() {
        due.sentence("Promise 15: NONE if the history is empty");
        HutBookings hut = new HutBookings();
        due.is("at first", hut.undo(), NONE);
        due.is("no states", hut.count(23), 0);
        hut.pass(5);
        due.is("one state", hut.count(23), 1);
        due.is("undo", hut.undo(), 0);
        due.is("now", hut.count(0), 0);
        due.is("empty again", hut.undo(), NONE);
        due.is("now", hut.count(0), 0);
    }

    private static void atMostFour() {
        due.sentence("HISTORY: A history of at most 4 states is kept");
        HutBookings hut = new HutBookings();
        for (int i = 1; i <= 4; i++) {
            hut.pass(1);
            due.is("states", hut.count(23), i);
        }
        for (int left = 3; left >= 0; left--) {
            due.is("undo", hut.undo(), left);
            due.is("states", hut.count(23), left);
            due.is("now", hut.count(0), left);
        }
        due.is("none is left", hut.undo(), NONE);
    }

    private static void oldestIsDropped() {
        due.sentence("HISTORY: when one more is recorded, the oldest one is dropped");
        HutBookings hut = new HutBookings();
        hut.pass(1);
        hut.pass(1);
        hut.pass(1);
        hut.pass(1);
        hut.pass(1);
        due.is("states", hut.count(23), 4);
        for (int left = 3; left >= 0; left--) {
            due.is("undo", hut.undo(), left);
            due.is("now", hut.count(0), left + 1);
        }
        due.is("the first of all was dropped", hut.undo(), NONE);
        due.is("now", hut.count(0), 1);
    }

    private static void droppedManyTimes() {
        due.sentence("HISTORY: undo() removes and restores the latest one, also after many were dropped");
        HutBookings hut = new HutBookings();
        for (int i = 0; i < 23; i++) {
            hut.pass(1);
        }
        due.is("undo", hut.undo(), 3);
        due.is("undo", hut.undo(), 2);
        due.is("now", hut.count(0), 21);
        hut.pass(9);
        due.is("states", hut.count(23), 3);
        hut.pass(9);
        hut.pass(9);
        due.is("states", hut.count(23), 4);
        int[] now = {39, 30, 21, 20};
        for (int i = 0; i < 4; i++) {
            due.is("undo", hut.undo(), 3 - i);
            due.is("now", hut.count(0), now[i]);
        }
        due.is("none is left", hut.undo(), NONE);
    }

    /** A hut of which the history is full, in which each act can be done and changes something. */
    private static HutBookings busy() {
        HutBookings hut = new HutBookings();
        hut.keep();
        hut.set(5, 2);
        hut.book(0, 2, 1);
        hut.book(2, 1, 3);
        hut.cancel(1);
        hut.order(0, 20);
        hut.order(1, 20);
        hut.pass(1);
        hut.book(4, 1, 2);
        for (char character : "5+1x1;6+1x1".toCharArray()) {
            hut.type(character);
        }
        return hut;
    }

    private static int act(String name, HutBookings hut) {
        switch (name) {
            case "book": return hut.book(7, 1, 1);
            case "bookAll": return hut.bookAll();
            case "cancel": return hut.cancel(2);
            case "extend": return hut.extend(0, 1);
            case "weather": return hut.weather(1, 5, 7);
            case "order": return hut.order(0, 5);
            case "recall": return hut.recall();
            case "flight": return hut.flight(true);
            case "pass": return hut.pass(9);
            case "set": return hut.set(2, 7);
            default: return hut.restore();
        }
    }

    private static void actsRecord() {
        due.sentence("HISTORY: each call of an act records the state that was before it");
        int[] answers = {3, 2, 10, 3, 5, 3, 20, 0, 10, 20, 0};
        for (int i = 0; i < ACTS.length; i++) {
            HutBookings hut = busy();
            due.is("states", hut.count(23), 4);
            due.is(ACTS[i], act(ACTS[i], hut), answers[i]);
            due.is("states after " + ACTS[i], hut.count(23), 4);
            due.is("undo " + ACTS[i], hut.undo(), 3);
            due.is("the booking before it is undone then", hut.undo(), 2);
            due.is("bookings", hut.count(1), 2);
        }
    }

    private static void actsAreUndone() {
        due.sentence("HISTORY: undo() brings all back that an act changed");
        long[] before = Told.by(() -> undone(() -> {
            HutBookings hut = busy();
            hut.set(9, 5);
            return hut;
        }));
        for (String act : ACTS) {
            long[] after = Told.by(() -> undone(() -> {
                HutBookings hut = busy();
                act(act, hut);
                return hut;
            }));
            String difference = Told.difference(after, before);
            due.holds("all is as before " + act + ": " + difference, difference.isEmpty());
        }
    }

    private static void nothingIsLeft() {
        due.sentence("HISTORY: what was undone leaves nothing behind");
        for (int restored = 0; restored < 2; restored++) {
            HutBookings hut = new HutBookings();
            hut.keep();
            hut.book(0, 1, 2);
            hut.pass(4);
            due.is("it was there and is gone", hut.booking(0, 0), 2);
            if (restored == 1) {
                hut.restore();
            } else {
                hut.undo();
                due.is("it did not come", hut.booking(0, 8), NONE);
                due.is("it did not sleep", hut.booking(0, 5), 0);
                hut.undo();
            }
            hut.set(3, 7);
            due.is("its number is free again", hut.book(9, 2, 3), 0);
            int[] told = {0, 9, 2, 3, 11, 0, 0, 42, NONE};
            for (int what = 0; what < told.length; what++) {
                due.is("booking(0, " + what + ")", hut.booking(0, what), told[what]);
            }
        }
    }

    private static HutBookings undone(Supplier<HutBookings> maker) {
        HutBookings hut = maker.get();
        hut.undo();
        return hut;
    }

    private static void noActsDoNotRecord() {
        due.sentence("HISTORY: only acts record");
        HutBookings hut = new HutBookings();
        hut.book(0, 1, 1);
        hut.type('5');
        hut.clearText();
        hut.fault();
        hut.keep();
        hut.booking(0, 0);
        hut.day(0, 0);
        hut.fresh(0, 0);
        hut.waiting(0, 0);
        hut.count(0);
        hut.coins(0);
        hut.use(0, 5);
        hut.refund(0);
        hut.firstFree(1, 1);
        hut.hungryIn();
        hut.wanting(60);
        hut.goneIn(0);
        hut.turnedAway(60);
        hut.bestCall();
        hut.fullest();
        due.is("one state", hut.count(23), 1);
        due.is("undo", hut.undo(), 0);
        due.is("undo is none", hut.count(23), 0);
        due.is("no booking", hut.count(1), 0);
    }

    private static void emptySnapshot() {
        due.sentence("HISTORY: one snapshot, empty at first; promise 17: NONE if there is no snapshot");
        HutBookings hut = new HutBookings();
        due.is("at first", hut.restore(), NONE);
        due.is("no state", hut.count(23), 0);
        hut.pass(3);
        due.is("still", hut.restore(), NONE);
        due.is("now", hut.count(0), 3);
        due.is("one state", hut.count(23), 1);
        due.is("keep", hut.keep(), 3);
        due.is("then there is one", hut.restore(), 3);
        due.is("of an empty hut too", emptyKept().restore(), 0);
    }

    private static HutBookings emptyKept() {
        HutBookings hut = new HutBookings();
        hut.keep();
        hut.pass(1);
        return hut;
    }

    private static void oneSnapshot() {
        due.sentence("Promise 16: Takes a snapshot of the state, in place of the one that was; the day of now");
        HutBookings hut = new HutBookings();
        due.is("keep", hut.keep(), 0);
        hut.pass(2);
        due.is("keep", hut.keep(), 2);
        hut.pass(2);
        due.is("the second one", hut.restore(), 2);
        due.is("it stays", hut.restore(), 2);
        hut.pass(30);
        due.is("and stays", hut.restore(), 2);
        due.is("keep is no act", hut.count(23), 4);
        due.is("undo", hut.undo(), 3);
        due.is("now", hut.count(0), 32);
    }

    private static void restoreIsAnAct() {
        due.sentence("Promise 17: Restores the state of the snapshot, which stays. This is an act");
        HutBookings hut = new HutBookings();
        hut.keep();
        hut.pass(1);
        hut.pass(1);
        hut.pass(1);
        due.is("restore", hut.restore(), 0);
        due.is("four states", hut.count(23), 4);
        due.is("restore what is so already", hut.restore(), 0);
        due.is("the oldest is dropped", hut.count(23), 4);
        due.is("undo", hut.undo(), 3);
        due.is("undo", hut.undo(), 2);
        due.is("before the first restore", hut.count(0), 3);
        due.is("the snapshot stays", hut.restore(), 0);
    }

    private static void restoreBringsAllBack() {
        due.sentence("HISTORY: a state is everything but the text, the history and the snapshot");
        Supplier<HutBookings> kept = () -> {
            HutBookings hut = busy();
            hut.weather(1, 3, 2);
            hut.set(0, 7);
            hut.flight(true);
            hut.book(9, 1, 1);
            hut.keep();
            return hut;
        };
        long[] before = Told.by(kept);
        long[] after = Told.by(() -> {
            HutBookings hut = kept.get();
            hut.book(3, 1, 1);
            hut.cancel(4);
            hut.pass(9);
            hut.set(3, 9);
            hut.restore();
            return hut;
        });
        String difference = Told.difference(after, before);
        due.holds("all is as it was kept: " + difference, difference.isEmpty());
    }

    private static void stateIsNotTheText() {
        due.sentence("HISTORY: a state is not the text");
        HutBookings hut = new HutBookings();
        hut.type('1');
        hut.keep();
        hut.pass(1);
        hut.type('+');
        hut.undo();
        due.is("undo leaves the text", hut.count(24), 2);
        due.is("as it is", hut.fault(), 2);
        hut.restore();
        due.is("restore leaves the text", hut.count(24), 2);
        hut.clearText();
        hut.restore();
        due.is("the empty text too", hut.count(24), 0);
    }

    private static void stateIsNotTheHistory() {
        due.sentence("HISTORY: a state is not the history");
        HutBookings hut = new HutBookings();
        hut.keep();
        hut.pass(1);
        hut.pass(1);
        hut.restore();
        due.is("restore leaves the history and adds to it", hut.count(23), 3);
        hut.undo();
        due.is("undo takes one from it", hut.count(23), 2);
    }

    private static void stateIsNotTheSnapshot() {
        due.sentence("HISTORY: a state is not the snapshot");
        HutBookings hut = new HutBookings();
        hut.pass(1);
        hut.keep();
        hut.undo();
        due.is("undo leaves the snapshot", hut.restore(), 1);
        hut.pass(1);
        hut.keep();
        hut.undo();
        hut.undo();
        due.is("now", hut.count(0), 0);
        due.is("the latest one", hut.restore(), 2);
    }
}
