import java.util.ArrayList;
import java.util.List;
import java.util.function.Supplier;

/**
 * All that a hut tells. Nothing is promised of an object after its 512th call, so several huts are made alike,
 * and each of them is asked a part.
 */
final class Told {
    /** A call and its answer. */
    interface Call {
        long on(HutBookings hut);
    }

    private static final int ASKED_OF_ONE = 150;
    private static final List<String> NAMES = new ArrayList<>();
    private static final List<Call> CALLS = new ArrayList<>();

    private Told() {
    }

    static long[] by(Supplier<HutBookings> maker) {
        askAll();
        long[] told = new long[CALLS.size()];
        HutBookings hut = null;
        for (int i = 0; i < told.length; i++) {
            if (i % ASKED_OF_ONE == 0) {
                hut = maker.get();
            }
            told[i] = CALLS.get(i).on(hut);
        }
        return told;
    }

    /** The first call that is answered otherwise, or nothing. */
    static String difference(long[] got, long[] want) {
        for (int i = 0; i < want.length; i++) {
            if (got[i] != want[i]) {
                return NAMES.get(i) + " answered " + got[i] + " and not " + want[i];
            }
        }
        return "";
    }

    private static void ask(String name, Call call) {
        NAMES.add(name);
        CALLS.add(call);
    }

    private static void askAll() {
        if (!CALLS.isEmpty()) {
            return;
        }
        for (int i = 0; i < 35; i++) {
            int what = i;
            ask("count(" + what + ")", hut -> hut.count(what));
        }
        for (int i = 0; i < 4; i++) {
            int what = i;
            ask("coins(" + what + ")", hut -> hut.coins(what));
        }
        for (int i = 0; i < 9 * 81; i++) {
            int booking = i / 9;
            int what = i % 9;
            ask("booking(" + booking + ", " + what + ")", hut -> hut.booking(booking, what));
        }
        for (int i = 0; i < 2 * 31; i++) {
            int rank = i / 2;
            int what = i % 2;
            ask("fresh(" + rank + ", " + what + ")", hut -> hut.fresh(rank, what));
        }
        for (int i = 0; i < 2 * 13; i++) {
            int rank = i / 2;
            int what = i % 2;
            ask("waiting(" + rank + ", " + what + ")", hut -> hut.waiting(rank, what));
        }
        for (int day = 0; day < 1000; day += day < 20 || day > 895 && day < 910 || day > 989 ? 1 : 25) {
            askOfDay(day);
        }
        askForesight();
    }

    private static void askOfDay(int day) {
        for (int i = 0; i < 5; i++) {
            int what = i;
            ask("day(" + day + ", " + what + ")", hut -> hut.day(day, what));
        }
    }

    private static void askForesight() {
        ask("fault()", HutBookings::fault);
        ask("hungryIn()", HutBookings::hungryIn);
        ask("wanting(60)", hut -> hut.wanting(60));
        ask("turnedAway(60)", hut -> hut.turnedAway(60));
        ask("bestCall()", HutBookings::bestCall);
        ask("fullest()", HutBookings::fullest);
        ask("use(0, 999)", hut -> Double.doubleToLongBits(hut.use(0, 999)));
    }
}
