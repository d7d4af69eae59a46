import java.util.function.Supplier;

/** Promises 15 (undo), 16 (keep) and 17 (restore). */
public final class HistoryTest {
    private static final int NONE = HutBookings.NONE;

    private static final Due due = new Due("HistoryTest");

    public static void main(String[] args) {
        undoGoesBackFourStates();
        undoBringsAllBack();
        onlyActsAreRecorded();
        restoreBringsAllBack();
        keepReplaces();
        restoreIsAnAct();
        nothingIsLeftOfWhatWasUndone();
        due.end();
    }

    private static void undoGoesBackFourStates() {
        HutBookings hut = new HutBookings();
        due.is("none", hut.undo(), NONE);
        for (int i = 1; i <= 6; i++) {
            hut.order(1, i);
            due.is("states", hut.count(23), Math.min(i, 4));
        }
        for (int left = 3; left >= 0; left--) {
            due.is("undo", hut.undo(), left);
            due.is("orders", hut.count(11), left + 2);
        }
        due.is("none more", hut.undo(), NONE);
        due.is("orders", hut.count(11), 2);
        hut.order(1, 50);
        hut.undo();
        due.is("the last of those", hut.waiting(1, 1), 2);
        due.is("none behind it", hut.waiting(2, 1), NONE);
    }

    /** A hut in which there is some of all. */
    private static HutBookings busyHut() {
        HutBookings hut = new HutBookings();
        hut.set(0, 6);
        hut.set(1, 2);
        hut.weather(1, 3, 2);
        hut.weather(4, 4, 5);
        hut.book(0, 1, 4);
        hut.book(1, 2, 3);
        hut.book(1, 4, 3);
        hut.book(20, 2, 2);
        hut.book(21, 2, 2);
        hut.cancel(4);
        hut.order(0, 30);
        hut.order(1, 25);
        hut.order(0, 10);
        hut.pass(3);
        hut.flight(true);
        return hut;
    }

    private static void same(String name, Supplier<HutBookings> got, Supplier<HutBookings> want) {
        String difference = Told.difference(Told.by(got), Told.by(want));
        due.holds("all is the same by " + name + ": " + difference, difference.isEmpty());
    }

    private static HutBookings changed(HutBookings hut) {
        hut.pass(5);
        hut.set(4, 9);
        return hut;
    }

    private static HutBookings undone(HutBookings hut) {
        hut.undo();
        return hut;
    }

    private static void undoBringsAllBack() {
        HutBookings hut = changed(busyHut());
        due.is("passed", hut.count(0), 8);
        due.is("undo", hut.undo(), 3);
        due.is("undo", hut.undo(), 2);
        same("undo", () -> undone(undone(changed(busyHut()))), () -> undone(undone(busyTwice())));
        acts();
    }

    /** Two acts more that change little, so that as many states are recorded. */
    private static HutBookings busyTwice() {
        HutBookings hut = busyHut();
        hut.set(9, 99);
        hut.set(9, 100);
        return hut;
    }

    /** Each act, undone. */
    private static void acts() {
        isUndone("book", hut -> hut.book(9, 1, 1), 5);
        isUndone("cancel", hut -> hut.cancel(3), 20);
        isUndone("extend", hut -> hut.extend(1, 1), 4);
        isUndone("weather", hut -> hut.weather(3, 9, 6), 7);
        isUndone("order", hut -> hut.order(1, 9), 3);
        isUndone("recall", HutBookings::recall, 10);
        isUndone("flight", hut -> hut.flight(false), 0);
        isUndone("set", hut -> hut.set(9, 1), 100);
        isUndone("pass", hut -> hut.pass(30), 33);
    }

    private static void isUndone(String name, Told.Call act, long answer) {
        due.is(name, act.on(busyHut()), answer);
        same(name, () -> {
            HutBookings hut = busyHut();
            act.on(hut);
            return undone(hut);
        }, () -> {
            HutBookings hut = busyHut();
            hut.set(9, 99);
            return undone(hut);
        });
    }

    private static void onlyActsAreRecorded() {
        HutBookings hut = new HutBookings();
        hut.book(1, 2, 3);
        hut.type('1');
        hut.fault();
        hut.bookAll();
        hut.clearText();
        hut.keep();
        hut.hungryIn();
        hut.wanting(9);
        hut.goneIn(0);
        hut.turnedAway(9);
        hut.bestCall();
        hut.fullest();
        hut.firstFree(1, 1);
        hut.refund(0);
        hut.use(0, 9);
        due.is("one state", hut.count(23), 1);
        due.is("now", hut.count(0), 0);
        due.is("booked", hut.booking(0, 0), 0);
    }

    private static HutBookings kept() {
        HutBookings hut = busyHut();
        hut.keep();
        return hut;
    }

    private static HutBookings restored(HutBookings hut) {
        hut.restore();
        return hut;
    }

    private static void restoreBringsAllBack() {
        HutBookings hut = kept();
        due.is("keep", hut.keep(), 3);
        changed(hut);
        due.is("restore", hut.restore(), 3);
        changed(hut);
        due.is("restore once more", hut.restore(), 3);
        same("restore", () -> restored(changed(kept())), HistoryTest::busyHut);
        same("restore once more", () -> restored(changed(restored(changed(kept())))), HistoryTest::busyHut);
    }

    private static void nothingIsLeftOfWhatWasUndone() {
        HutBookings hut = new HutBookings();
        hut.book(0, 1, 2);
        hut.keep();
        hut.book(0, 3, 3);
        hut.pass(1);
        hut.undo();
        hut.undo();
        due.is("a new one with its number", hut.book(5, 2, 1), 1);
        due.is("it is booked", hut.booking(1, 0), 0);
        due.is("it did not sleep", hut.booking(1, 5), 0);
        due.is("its deposit", hut.booking(1, 7), 10);
        due.is("it did not come", hut.booking(1, 8), NONE);
        hut.restore();
        hut.set(3, 9);
        hut.book(6, 1, 1);
        due.is("another deposit", hut.booking(1, 7), 9);
        hut.undo();
        hut.undo();
        due.is("undo restore", hut.undo(), 1);
        due.is("the former deposit", hut.booking(1, 7), 10);
    }

    private static void keepReplaces() {
        HutBookings hut = new HutBookings();
        due.is("no snapshot", hut.restore(), NONE);
        due.is("keep", hut.keep(), 0);
        due.is("keep is no act", hut.count(23), 0);
        hut.pass(2);
        due.is("keep", hut.keep(), 2);
        hut.pass(2);
        due.is("the second one", hut.restore(), 2);
        hut.undo();
        hut.undo();
        hut.undo();
        due.is("before all", hut.count(0), 0);
        due.is("undo leaves the snapshot", hut.restore(), 2);
    }

    private static void restoreIsAnAct() {
        HutBookings hut = new HutBookings();
        hut.keep();
        hut.order(0, 5);
        due.is("restore", hut.restore(), 0);
        due.is("states", hut.count(23), 2);
        due.is("no orders", hut.count(11), 0);
        due.is("undo", hut.undo(), 1);
        due.is("the order", hut.count(11), 1);
    }
}
