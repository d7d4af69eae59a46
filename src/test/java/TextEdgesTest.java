/** TEXTS and promises 3, 12, 13 and 14: the edges of each sentence. */
public final class TextEdgesTest {
    private static final int BAD_VALUE = HutBookings.BAD_VALUE;
    private static final int FULL = HutBookings.FULL;
    private static final int NOT_POSSIBLE = HutBookings.NOT_POSSIBLE;
    private static final int NONE = HutBookings.NONE;

    private static final Due due = new Due("TextEdgesTest");

    public static void main(String[] args) {
        emptyAtFirst();
        atMostSixty();
        anyCharacter();
        oneOrMoreBookings();
        days();
        nights();
        persons();
        noZeroInFront();
        greaterThanTold();
        firstThatIsNotAllowed();
        endsTooEarly();
        clearText();
        bookAllAnswersTheFault();
        bookAllHowMany();
        bookAllFirstError();
        bookAllErrorsOfBook();
        bookAllOrNone();
        bookAllTakesItsOwnBeds();
        bookAllFull();
        due.end();
    }

    private static HutBookings withText(String text) {
        HutBookings hut = new HutBookings();
        write(hut, text);
        return hut;
    }

    private static void write(HutBookings hut, String text) {
        for (int i = 0; i < text.length(); i++) {
            due.is("type of " + text, hut.type(text.charAt(i)), i + 1);
        }
    }

    private static void good(String text, int bookings) {
        HutBookings hut = withText(text);
        due.is("fault of " + text, hut.fault(), NONE);
        due.is("bookAll of " + text, hut.bookAll(), bookings);
        due.is("length of " + text, hut.count(24), text.length());
    }

    private static void bad(String text, int index) {
        HutBookings hut = withText(text);
        due.is("fault of " + text, hut.fault(), index);
        due.is("bookAll of " + text, hut.bookAll(), -100 - index);
        due.is("no booking by " + text, hut.count(1), 0);
        due.is("no state by " + text, hut.count(23), 0);
        due.is("length of " + text, hut.count(24), text.length());
    }

    private static void emptyAtFirst() {
        due.sentence("TEXTS: empty at first; the empty text ends too early");
        HutBookings hut = new HutBookings();
        due.is("length", hut.count(24), 0);
        due.is("fault", hut.fault(), 0);
        due.is("bookAll", hut.bookAll(), -100);
        due.is("clearText", hut.clearText(), 0);
        due.is("fault", hut.fault(), 0);
        due.is("the first character", hut.type('1'), 1);
    }

    private static void atMostSixty() {
        due.sentence("TEXTS: at most 60 characters; promise 12: FULL if it has 60 characters");
        HutBookings hut = new HutBookings();
        write(hut, "0+1x1;0+1x1;0+1x1;0+1x1;0+1x1;0+1x1;0+1x1;0+1x1;0+1x1;0+1x1");
        due.is("length", hut.count(24), 59);
        due.is("no fault", hut.fault(), NONE);
        due.is("the 60th", hut.type(';'), 60);
        due.is("the 61st", hut.type('1'), FULL);
        due.is("length still", hut.count(24), 60);
        due.is("the 60th is the last", hut.fault(), 60);
        due.is("clearText", hut.clearText(), 60);
        due.is("room again", hut.type('1'), 1);
        HutBookings whole = new HutBookings();
        write(whole, "0+1x1;0+1x1;0+1x1;0+1x1;0+1x1;0+1x1;0+1x1;0+1x1;0+1x1;10+1x1");
        due.is("the 61st is not read", whole.type('1'), FULL);
        due.is("no fault in 60", whole.fault(), NONE);
        due.is("ten bookings", whole.bookAll(), 10);
        due.is("the last of them", whole.booking(9, 1), 10);
    }

    private static void anyCharacter() {
        due.sentence("Promise 12: character: any character");
        char[] characters = {0, 1, 31, ' ', 127, 128, 233, 255, 256, 0x7fff, 0x8000, 0xd800, 0xffff};
        HutBookings hut = new HutBookings();
        for (int i = 0; i < characters.length; i++) {
            due.is("character " + (int) characters[i], hut.type(characters[i]), i + 1);
        }
        due.is("fault", hut.fault(), 0);
        due.is("length", hut.clearText(), characters.length);
    }

    private static void oneOrMoreBookings() {
        due.sentence("TEXTS: one or more bookings with \";\" between two");
        good("1+2x3", 1);
        good("1+2x3;4+5x6", 2);
        good("1+1x1;1+1x1;1+1x1", 3);
        bad("", 0);
        bad(";", 0);
        bad(";1+2x3", 0);
        bad("1+2x3;", 6);
        bad("1+2x3;;4+5x6", 6);
        bad("1+2x34+5x6", 5);
    }

    private static void days() {
        due.sentence("TEXTS: the day of arrival (0 to 899)");
        String[] days = {"0", "1", "9", "10", "89", "90", "99", "100", "800", "889", "890", "898", "899"};
        for (String day : days) {
            good(day + "+1x1", 1);
        }
        bad("900+1x1", 2);
        bad("901+1x1", 2);
        bad("909+1x1", 2);
        bad("999+1x1", 2);
        bad("1000+1x1", 3);
        bad("8990+1x1", 3);
        bad("-1+1x1", 0);
        bad("+1x1", 0);
    }

    private static void nights() {
        due.sentence("TEXTS: the nights (1 to 9)");
        for (int nights = 1; nights <= 9; nights++) {
            HutBookings hut = withText("5+" + nights + "x1");
            due.is("bookAll", hut.bookAll(), 1);
            due.is("nights", hut.booking(0, 2), nights);
        }
        bad("5+0x1", 2);
        bad("5+10x1", 3);
        bad("5+99x1", 3);
        bad("5+x1", 2);
        bad("5+-1x1", 2);
    }

    private static void persons() {
        due.sentence("TEXTS: the persons (1 to 9)");
        for (int persons = 1; persons <= 9; persons++) {
            HutBookings hut = withText("5+1x" + persons);
            due.is("bookAll", hut.bookAll(), 1);
            due.is("persons", hut.booking(0, 3), persons);
        }
        bad("5+1x0", 4);
        bad("5+1x10", 5);
        bad("5+1x99", 5);
        bad("5+1x;1+1x1", 4);
        bad("5+1x-1", 4);
    }

    private static void noZeroInFront() {
        due.sentence("TEXTS: Numbers have no zero in front, unless the day is the single digit 0");
        good("0+1x1", 1);
        good("0+1x1;0+1x1", 2);
        bad("00+1x1", 1);
        bad("01+1x1", 1);
        bad("05+1x1", 1);
        bad("09", 1);
        bad("000", 1);
        bad("5+01x1", 2);
        bad("5+1x01", 4);
        bad("1+1x1;00+1x1", 7);
        bad("1+1x1;07+1x1", 7);
    }

    private static void greaterThanTold() {
        due.sentence("TEXTS: a digit by which a number would be greater than told is not allowed");
        for (int day = 10; day <= 99; day++) {
            for (int digit = 0; digit <= 9; digit += 9) {
                HutBookings hut = withText(day + "" + digit);
                due.is("fault of " + day + digit, hut.fault(), day >= 90 ? 2 : 3);
            }
        }
        for (int day = 890; day <= 899; day++) {
            bad(day + "0", 3);
            bad(day + "9+1x1", 3);
        }
    }

    private static void firstThatIsNotAllowed() {
        due.sentence("TEXTS: the index of the first character that is not allowed at its place");
        String[] texts = {"", "0", "5", "55", "555", "5+", "5+5", "5+5x", "5+5x5", "5+5x5;", "5+5x5;0", "5+5x5;5"};
        String digits = "0123456789";
        String[] allowed = {digits, "+", digits + "+", digits + "+", "+", "123456789", "x", "123456789", ";", digits,
            "+", digits + "+"};
        for (int i = 0; i < texts.length; i++) {
            for (int c = 0; c < 300; c++) {
                boolean fits = allowed[i].indexOf(c) >= 0;
                HutBookings hut = withText(texts[i] + (char) c + "?");
                due.is("fault of " + texts[i] + (char) c + "?", hut.fault(), texts[i].length() + (fits ? 1 : 0));
            }
        }
        bad("?+1x1;?", 0);
    }

    private static void endsTooEarly() {
        due.sentence("TEXTS: or the length of the text if it ends too early");
        String text = "12+3x4;0+5x6;899+1x1";
        for (int length = 0; length <= text.length(); length++) {
            String begun = text.substring(0, length);
            boolean whole = length == 6 || length == 12 || length == 20;
            HutBookings hut = withText(begun);
            due.is("fault of " + begun, hut.fault(), whole ? NONE : length);
            if (!whole) {
                due.is("bookAll of " + begun, hut.bookAll(), -100 - length);
            }
        }
        HutBookings full = withText("5+5x5;".repeat(9) + "123+1x");
        due.is("sixty characters that end too early", full.fault(), 60);
        due.is("bookAll of them", full.bookAll(), -160);
    }

    private static void clearText() {
        due.sentence("Promise 13: Empties the text; the length that it had");
        HutBookings hut = withText("5+1x1;7");
        due.is("seven", hut.clearText(), 7);
        due.is("length", hut.count(24), 0);
        due.is("fault", hut.fault(), 0);
        due.is("nothing is left of it", hut.type('+'), 1);
        due.is("fault", hut.fault(), 0);
        due.is("one", hut.clearText(), 1);
        due.is("none", hut.clearText(), 0);
        due.is("no state", hut.count(23), 0);
    }

    private static void bookAllAnswersTheFault() {
        due.sentence("Promise 3: -100 minus the fault of the text if it has one");
        bad("", 0);
        bad("x", 0);
        bad("5x", 1);
        bad("5+5x5;5+5x5;5+5x5;5+5x5;5+5x5;5+5x5;5+5x5;5+5x5;5+5x5;5+5x5x", 59);
        HutBookings hut = new HutBookings();
        hut.pass(1);
        write(hut, "0+9x9;0+9x9;");
        due.is("a fault is told before a wrong day", hut.bookAll(), -112);
    }

    private static void bookAllHowMany() {
        due.sentence("Promise 3: how many the text has; one act; the text stays");
        HutBookings hut = withText("7+2x3;899+9x1;0+1x2");
        due.is("three", hut.bookAll(), 3);
        due.is("one state", hut.count(23), 1);
        due.is("the text stays", hut.count(24), 19);
        int[][] told = {{7, 2, 3}, {899, 9, 1}, {0, 1, 2}};
        for (int booking = 0; booking < 3; booking++) {
            due.is("arrives", hut.booking(booking, 1), told[booking][0]);
            due.is("nights", hut.booking(booking, 2), told[booking][1]);
            due.is("persons", hut.booking(booking, 3), told[booking][2]);
            due.is("deposit", hut.booking(booking, 7), 5 * told[booking][1] * told[booking][2]);
        }
        due.is("the deposits", hut.coins(0), 5 * (6 + 9 + 2));
        due.is("three more", hut.bookAll(), 3);
        due.is("six", hut.count(1), 6);
        due.is("undo", hut.undo(), 1);
        due.is("three", hut.count(1), 3);
        due.is("undo", hut.undo(), 0);
        due.is("none", hut.count(1), 0);
    }

    private static void bookAllFirstError() {
        due.sentence("Promise 3: the error that book() returns for the first one that has one");
        HutBookings hut = new HutBookings();
        hut.pass(1);
        hut.book(5, 1, 9);
        write(hut, "9+1x1;5+1x2;0+1x1");
        due.is("no beds, and then the past", hut.bookAll(), NOT_POSSIBLE);
        hut.clearText();
        write(hut, "9+1x1;0+1x1;5+1x2");
        due.is("the past, and then no beds", hut.bookAll(), BAD_VALUE);
        due.is("one booking", hut.count(1), 1);
        due.is("states", hut.count(23), 2);
    }

    private static void bookAllErrorsOfBook() {
        due.sentence("Promise 3: the errors of book(): BAD_VALUE before the day of now alone");
        HutBookings hut = new HutBookings();
        hut.pass(3);
        write(hut, "2+1x1");
        due.is("yesterday", hut.bookAll(), BAD_VALUE);
        hut.clearText();
        write(hut, "3+1x1");
        due.is("today", hut.bookAll(), 1);
    }

    private static void bookAllOrNone() {
        due.sentence("Promise 3: all of them or none");
        HutBookings hut = new HutBookings();
        hut.book(3, 1, 9);
        write(hut, "1+1x1;2+1x1;3+1x2");
        due.is("no beds for the last", hut.bookAll(), NOT_POSSIBLE);
        due.is("one booking", hut.count(1), 1);
        due.is("coins", hut.coins(0), 45);
        due.is("no night of the first", hut.day(1, 0), 0);
        due.is("one state", hut.count(23), 1);
        hut.cancel(0);
        due.is("then all", hut.bookAll(), 3);
    }

    private static void bookAllTakesItsOwnBeds() {
        due.sentence("Promise 3: one after the other: when its turn comes");
        good("3+2x6;4+1x4", 2);
        HutBookings hut = withText("3+2x6;4+1x5");
        due.is("the first leaves four beds", hut.bookAll(), NOT_POSSIBLE);
        due.is("none", hut.count(1), 0);
        due.is("no state", hut.count(23), 0);
    }

    private static void bookAllFull() {
        due.sentence("Promise 3: FULL if 80 came when its turn comes");
        HutBookings hut = new HutBookings();
        for (int i = 0; i < 78; i++) {
            due.is("book", hut.book(10 + i, 1, 9), i);
        }
        write(hut, "1+1x1;2+1x1;3+1x1");
        due.is("one too many", hut.bookAll(), FULL);
        due.is("none of them", hut.count(1), 78);
        hut.clearText();
        write(hut, "1+1x1;2+1x1");
        due.is("just eighty", hut.bookAll(), 2);
        due.is("eighty", hut.count(1), 80);
        due.is("no more", hut.bookAll(), FULL);
        hut.clearText();
        write(hut, "10+1x2");
        due.is("no beds is told before full", hut.bookAll(), NOT_POSSIBLE);
    }
}
