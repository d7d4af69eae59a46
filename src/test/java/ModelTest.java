/** Long runs of calls, made by a fixed sequence of numbers, on HutBookings and on PlainHut. */
public final class ModelTest {
    private static final int RUNS = 800;
    // Nothing is promised of an object after that.
    private static final int CALLS = 512;
    private static final int CALLS_AT_ONCE = 50;
    private static final String SIGNS = "0123456789+x;";
    private static final int[] SETTING_MOST = {40, 20, 99, 99, 30, 30, 50, 99, 20, 999};

    private static final Due due = new Due("ModelTest");

    private final HutBookings hut = new HutBookings();
    private final PlainHut plain = new PlainHut();
    private final int run;
    private final int span;
    private long seed;
    private int calls;

    private ModelTest(int run) {
        this.run = run;
        this.seed = run * 7919L + 17;
        this.span = 4 + upTo(30);
    }

    public static void main(String[] args) {
        for (int run = 0; run < RUNS; run++) {
            ModelTest test = new ModelTest(run);
            test.prepare();
            for (int call = 0; call < CALLS && test.calls <= CALLS - CALLS_AT_ONCE; call++) {
                test.call(call);
            }
            due.holds("run " + run + " made no more calls than an object answers", test.calls <= CALLS);
        }
        due.end();
    }

    /** A number from 0 up to the most. */
    private int upTo(int most) {
        seed = seed * 6364136223846793005L + 1442695040888963407L;
        return (int) ((seed >>> 33) % (most + 1));
    }

    private int between(int least, int most) {
        return least + upTo(most - least);
    }

    private void due(int call, String name, long got, long want) {
        calls++;
        due.is("run " + run + ", call " + call + ": " + name, got, want);
    }

    /** Some runs are near the last days, some have other weather. */
    private void prepare() {
        int passes = run % 4 == 3 ? between(28, 33) : 0;
        for (int i = 0; i < passes; i++) {
            due(-1, "pass(30)", hut.pass(30), plain.pass(30));
        }
        for (int i = 0; i < 3; i++) {
            int from = plain.count(0) + upTo(span);
            int to = from + upTo(12);
            int weather = upTo(7);
            due(-1, "weather", hut.weather(from, to, weather), plain.weather(from, to, weather));
        }
    }

    private void call(int call) {
        int kind = upTo(99);
        if (kind < 45) {
            act(call, kind);
        } else if (kind < 55) {
            write(call, kind);
        } else if (kind < 60) {
            goBack(call, kind);
        } else if (kind < 80) {
            tell(call, kind);
        } else {
            foretell(call, kind);
        }
    }

    private int someDay() {
        return upTo(40) == 0 ? between(-2, 1001) : plain.count(0) - 2 + upTo(span);
    }

    private int someBooking() {
        return upTo(plain.count(1) + 1) - (upTo(9) == 0 ? 1 : 0);
    }

    private void act(int call, int kind) {
        int a = someDay();
        int b = between(0, 10);
        int c = upTo(2) == 0 ? between(0, 10) : between(1, 4);
        if (kind < 15) {
            due(call, "book(" + a + ", " + b + ", " + c + ")", hut.book(a, b, c), plain.book(a, b, c));
        } else if (kind < 18) {
            int booking = someBooking();
            due(call, "cancel(" + booking + ")", hut.cancel(booking), plain.cancel(booking));
        } else if (kind < 22) {
            int booking = someBooking();
            due(call, "extend(" + booking + ", " + c + ")", hut.extend(booking, c), plain.extend(booking, c));
        } else if (kind < 26) {
            int to = a + between(-1, 9);
            int weather = upTo(3) == 0 ? between(-1, 8) : 0;
            due(call, "weather(" + a + ", " + to + ", " + weather + ")", hut.weather(a, to, weather),
                plain.weather(a, to, weather));
        } else if (kind < 31) {
            int food = upTo(9) == 0 ? between(-1, 2) : upTo(1);
            int portions = upTo(9) == 0 ? between(-1, 101) : between(1, 40);
            due(call, "order(" + food + ", " + portions + ")", hut.order(food, portions),
                plain.order(food, portions));
        } else if (kind < 32) {
            due(call, "recall()", hut.recall(), plain.recall());
        } else if (kind < 35) {
            boolean called = upTo(3) > 0;
            due(call, "flight(" + called + ")", hut.flight(called), plain.flight(called));
        } else if (kind < 42) {
            int days = upTo(19) == 0 ? between(-1, 31) : between(1, 2);
            due(call, "pass(" + days + ")", hut.pass(days), plain.pass(days));
        } else {
            int which = between(-1, 10);
            int most = which < 0 || which > 9 ? 9 : SETTING_MOST[which];
            int value = upTo(4) == 0 ? between(-1, most + 1) : between(0, Math.min(most, 25));
            due(call, "set(" + which + ", " + value + ")", hut.set(which, value), plain.set(which, value));
        }
    }

    private void write(int call, int kind) {
        if (kind == 45) {
            due(call, "clearText()", hut.clearText(), plain.clearText());
        } else if (kind == 46) {
            typeBookings(call);
        } else if (kind < 50) {
            due(call, "bookAll()", hut.bookAll(), plain.bookAll());
        } else if (kind < 52) {
            due(call, "fault()", hut.fault(), plain.fault());
        } else {
            int sign = upTo(SIGNS.length());
            char character = sign < SIGNS.length() ? SIGNS.charAt(sign) : (char) upTo(300);
            due(call, "type(" + (int) character + ")", hut.type(character), plain.type(character));
        }
    }

    private void typeBookings(int call) {
        due(call, "clearText()", hut.clearText(), plain.clearText());
        String between = "";
        for (int i = upTo(3); i >= 0; i--) {
            String part = between + (plain.count(0) + upTo(span)) + "+" + between(1, 9) + "x" + between(1, 4);
            for (int j = 0; j < part.length(); j++) {
                due(call, "type(" + part + ")", hut.type(part.charAt(j)), plain.type(part.charAt(j)));
            }
            between = ";";
        }
    }

    private void goBack(int call, int kind) {
        if (kind < 57) {
            due(call, "undo()", hut.undo(), plain.undo());
        } else if (kind < 59) {
            due(call, "keep()", hut.keep(), plain.keep());
        } else if (upTo(2) == 0) {
            due(call, "restore()", hut.restore(), plain.restore());
        }
    }

    private void tell(int call, int kind) {
        int a = someDay();
        int b = someBooking();
        if (kind < 62) {
            int to = a + between(-1, 40);
            calls++;
            due.isDouble("run " + run + ", call " + call + ": use(" + a + ", " + to + ")", hut.use(a, to),
                plain.use(a, to));
        } else if (kind < 66) {
            tellAll(call);
        } else if (kind < 70) {
            int what = between(-1, 9);
            due(call, "booking(" + b + ", " + what + ")", hut.booking(b, what), plain.booking(b, what));
        } else if (kind < 74) {
            int what = between(-1, 5);
            due(call, "day(" + a + ", " + what + ")", hut.day(a, what), plain.day(a, what));
        } else if (kind < 76) {
            int rank = between(-1, 4);
            int what = between(-1, 2);
            due(call, "fresh(" + rank + ", " + what + ")", hut.fresh(rank, what), plain.fresh(rank, what));
        } else if (kind < 78) {
            int rank = between(-1, 12);
            int what = between(-1, 2);
            due(call, "waiting(" + rank + ", " + what + ")", hut.waiting(rank, what), plain.waiting(rank, what));
        } else {
            int what = between(-1, 4);
            due(call, "coins(" + what + ")", hut.coins(what), plain.coins(what));
        }
    }

    private void tellAll(int call) {
        for (int what = -1; what <= 35; what++) {
            due(call, "count(" + what + ")", hut.count(what), plain.count(what));
        }
        for (int what = 0; what <= 3; what++) {
            due(call, "coins(" + what + ")", hut.coins(what), plain.coins(what));
        }
    }

    private void foretell(int call, int kind) {
        int booking = someBooking();
        int days = upTo(9) == 0 ? between(-1, 62) : between(1, 20);
        if (kind < 82) {
            due(call, "refund(" + booking + ")", hut.refund(booking), plain.refund(booking));
        } else if (kind < 85) {
            int nights = between(0, 10);
            int persons = between(0, 10);
            due(call, "firstFree(" + nights + ", " + persons + ")", hut.firstFree(nights, persons),
                plain.firstFree(nights, persons));
        } else if (kind < 87) {
            due(call, "hungryIn()", hut.hungryIn(), plain.hungryIn());
        } else if (kind < 88) {
            due(call, "wanting(" + days + ")", hut.wanting(days), plain.wanting(days));
        } else if (kind < 91) {
            due(call, "goneIn(" + booking + ")", hut.goneIn(booking), plain.goneIn(booking));
        } else if (kind < 94) {
            due(call, "turnedAway(" + days + ")", hut.turnedAway(days), plain.turnedAway(days));
        } else if (kind < 97) {
            due(call, "bestCall()", hut.bestCall(), plain.bestCall());
        } else {
            due(call, "fullest()", hut.fullest(), plain.fullest());
        }
    }
}
