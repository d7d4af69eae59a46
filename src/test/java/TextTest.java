/** Promises 3 (bookAll), 12 (type), 13 (clearText) and 14 (fault). */
public final class TextTest {
    private static final int BAD_VALUE = HutBookings.BAD_VALUE;
    private static final int FULL = HutBookings.FULL;
    private static final int NOT_POSSIBLE = HutBookings.NOT_POSSIBLE;
    private static final int NONE = HutBookings.NONE;

    private static final Due due = new Due("TextTest");

    public static void main(String[] args) {
        textsWithoutFault();
        textsThatEndTooEarly();
        textsWithAFault();
        typeEndsWithSixty();
        clearTextEmpties();
        bookAllBooksAll();
        bookAllBooksAllOrNone();
        bookAllCountsItsOwn();
        bookAllEndsWithEighty();
        textsAreNoState();
        due.end();
    }

    private static HutBookings withText(String text) {
        HutBookings hut = new HutBookings();
        write(hut, text);
        return hut;
    }

    private static void write(HutBookings hut, String text) {
        for (int i = 0; i < text.length(); i++) {
            due.is("type of " + text, hut.type(text.charAt(i)), i + 1);
        }
    }

    private static void textsWithoutFault() {
        String[] texts = {"0+1x1", "9+9x9", "10+1x1", "99+1x1", "100+2x3", "899+9x9", "0+1x1;0+1x1",
            "5+1x2;60+3x4;700+5x6"};
        for (String text : texts) {
            due.is("fault of " + text, withText(text).fault(), NONE);
        }
    }

    private static void textsThatEndTooEarly() {
        String[] texts = {"", "0", "8", "89", "899", "0+", "0+1", "0+1x", "0+1x1;", "0+1x1;12", "0+1x1;12+3x"};
        for (String text : texts) {
            HutBookings hut = withText(text);
            due.is("fault of " + text, hut.fault(), text.length());
            due.is("bookAll of " + text, hut.bookAll(), -100 - text.length());
            due.is("states", hut.count(23), 0);
        }
    }

    private static void textsWithAFault() {
        faultAt("+", 0);
        faultAt(";", 0);
        faultAt("-1+1x1", 0);
        faultAt(" 1+1x1", 0);
        faultAt("00+1x1", 1);
        faultAt("01+1x1", 1);
        faultAt("0x1x1", 1);
        faultAt("1;", 1);
        faultAt("900+1x1", 2);
        faultAt("901", 2);
        faultAt("990", 2);
        faultAt("8990", 3);
        faultAt("1000", 3);
        faultAt("1111", 3);
        faultAt("1+0x1", 2);
        faultAt("1++", 2);
        faultAt("1+x", 2);
        faultAt("1+10x1", 3);
        faultAt("1+1+1", 3);
        faultAt("1+1X1", 3);
        faultAt("1+1x0", 4);
        faultAt("1+1x;", 4);
        faultAt("1+1x11", 5);
        faultAt("1+1x1,", 5);
        faultAt("1+1x1+", 5);
        faultAt("1+1x1;;", 6);
        faultAt("1+1x1;00", 7);
        faultAt("1+1x1;2+2x2;900+1x1", 14);
        faultAt("1" + (char) ('+' + 256) + "1x1", 1);
        faultAt("" + (char) 0, 0);
        faultAt("" + (char) 65535, 0);
    }

    private static void faultAt(String text, int index) {
        HutBookings hut = withText(text);
        due.is("fault of " + text, hut.fault(), index);
        due.is("bookAll of " + text, hut.bookAll(), -100 - index);
        due.is("no booking", hut.count(1), 0);
    }

    private static void typeEndsWithSixty() {
        HutBookings hut = new HutBookings();
        for (int i = 1; i <= 60; i++) {
            due.is("type", hut.type("0+1x1;".charAt((i - 1) % 6)), i);
        }
        due.is("one too many", hut.type('1'), FULL);
        due.is("length", hut.count(24), 60);
        due.is("it ends with a sign between two", hut.fault(), 60);
        due.is("bookAll", hut.bookAll(), -160);
        due.is("clear", hut.clearText(), 60);
        write(hut, "0+1x1;0+1x1;0+1x1;0+1x1;0+1x1;0+1x1;0+1x1;0+1x1;0+1x1;10+1x1");
        due.is("ten bookings", hut.bookAll(), 10);
        due.is("taken", hut.day(0, 0), 9);
        due.is("the last one", hut.booking(9, 1), 10);
    }

    private static void clearTextEmpties() {
        HutBookings hut = new HutBookings();
        due.is("empty", hut.clearText(), 0);
        write(hut, "3+1");
        due.is("three", hut.clearText(), 3);
        due.is("length", hut.count(24), 0);
        due.is("fault", hut.fault(), 0);
        write(hut, "4+1x1");
        due.is("nothing of it is left", hut.bookAll(), 1);
        due.is("arrives", hut.booking(0, 1), 4);
    }

    private static void bookAllBooksAll() {
        HutBookings hut = withText("7+2x3;899+9x1;10+1x2");
        due.is("three", hut.bookAll(), 3);
        due.is("one act", hut.count(23), 1);
        due.is("the text stays", hut.count(24), 20);
        due.is("first", hut.booking(0, 1), 7);
        due.is("nights", hut.booking(0, 2), 2);
        due.is("persons", hut.booking(0, 3), 3);
        due.is("second", hut.booking(1, 1), 899);
        due.is("nights", hut.booking(1, 2), 9);
        due.is("third", hut.booking(2, 1), 10);
        due.is("persons", hut.booking(2, 3), 2);
        due.is("deposits", hut.coins(0), 30 + 45 + 10);
        due.is("undo", hut.undo(), 0);
        due.is("none", hut.count(1), 0);
        due.is("the text stays", hut.bookAll(), 3);
    }

    private static void bookAllBooksAllOrNone() {
        HutBookings hut = withText("5+1x1;1+1x1;3+1x9;3+1x2");
        due.is("too many in the last", hut.bookAll(), NOT_POSSIBLE);
        due.is("none", hut.count(1), 0);
        due.is("coins", hut.coins(0), 0);
        due.is("no act", hut.count(23), 0);
        hut.pass(2);
        due.is("the past comes before it", hut.bookAll(), BAD_VALUE);
        due.is("none", hut.count(1), 0);
    }

    private static void bookAllCountsItsOwn() {
        HutBookings hut = withText("3+2x6;4+1x4");
        due.is("just the beds", hut.bookAll(), 2);
        due.is("not once more", hut.bookAll(), NOT_POSSIBLE);
        due.is("bookings", hut.count(1), 2);
    }

    private static void bookAllEndsWithEighty() {
        HutBookings hut = new HutBookings();
        for (int i = 0; i < 79; i++) {
            due.is("book", hut.book(10 + i, 1, 1), i);
        }
        write(hut, "1+1x1;2+1x1");
        due.is("one too many", hut.bookAll(), FULL);
        due.is("bookings", hut.count(1), 79);
        hut.clearText();
        write(hut, "1+1x1");
        due.is("the last one", hut.bookAll(), 1);
        due.is("full", hut.bookAll(), FULL);
    }

    private static void textsAreNoState() {
        HutBookings hut = withText("1+1x1");
        hut.keep();
        hut.order(0, 1);
        due.is("states", hut.count(23), 1);
        hut.type(';');
        hut.undo();
        due.is("undo leaves the text", hut.count(24), 6);
        hut.clearText();
        hut.restore();
        due.is("restore leaves the text", hut.count(24), 0);
    }
}
