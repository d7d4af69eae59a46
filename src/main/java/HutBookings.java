import java.util.Arrays;

/** The bookings, the weather, the food and the flights of a mountain hut. */
public final class HutBookings {
    public static final int UNKNOWN = -1000001;
    public static final int BAD_VALUE = -1000002;
    public static final int FULL = -1000003;
    public static final int NOT_POSSIBLE = -1000004;
    public static final int NONE = -1000005;

    private static final int BEDS = 0;
    private static final int MATTRESSES = 1;
    private static final int PRICE = 2;
    private static final int DEPOSIT = 3;
    private static final int NOTICE = 4;
    private static final int FRESH_KEEPS = 5;
    private static final int CARRIED_A_DAY = 6;
    private static final int FLOWN_A_FLIGHT = 7;
    private static final int SEATS = 8;
    private static final int FLIGHT_COINS = 9;
    private static final int[] SETTING_FIRST = {10, 4, 20, 5, 3, 4, 12, 20, 3, 100};
    private static final int[] SETTING_LEAST = {1, 0, 0, 0, 0, 1, 0, 0, 0, 0};
    private static final int[] SETTING_MOST = {40, 20, 99, 99, 30, 30, 50, 99, 20, 999};
    private static final int SETTINGS = 10;

    private static final int BOOKED = 0;
    private static final int THERE = 1;
    private static final int GONE = 2;
    private static final int CANCELLED = 3;
    private static final int TURNED_AWAY = 4;
    private static final int NOT_COME = -1;

    private static final int UP_CLOSED = 1;
    private static final int DOWN_CLOSED = 2;
    private static final int TOO_WINDY = 4;

    private static final int FRESH = 0;

    // The tally has the order in which count() tells it, from FIRST_TALLY on.
    private static final int FLIGHTS = 0;
    private static final int TAKEN_DOWN = 1;
    private static final int BROUGHT = 2;
    private static final int EATEN = 3;
    private static final int SPOILT = 4;
    private static final int HUNGRY = 5;
    private static final int STRANDED = 6;
    private static final int SLEPT = 7;
    private static final int PERSONS_TURNED_AWAY = 8;
    private static final int TALLIES = 9;
    private static final int FIRST_TALLY = 14;
    private static final int FIRST_SETTING = 25;

    private static final int LAST_DAY = 999;
    private static final int LAST_ARRIVAL = 899;
    private static final int NIGHTS_MOST = 9;
    private static final int PERSONS_MOST = 9;
    private static final int BOOKINGS_MOST = 80;
    private static final int ORDERS_MOST = 12;
    private static final int PORTIONS_MOST = 99;
    private static final int KEEPS_MOST = 30;
    private static final int PASS_MOST = 30;
    private static final int HISTORY_MOST = 4;
    private static final int TEXT_MOST = 60;
    private static final int BOOKINGS_IN_TEXT_MOST = 10;
    private static final int TEXT_ERROR = -100;
    private static final int FORESIGHT = 60;
    private static final int CALL_LATEST = 30;

    private final Hut hut;
    // A second hut in which is tried what would be, so that the first one stays as it is.
    private final Hut trial;
    private final Hut snapshot;
    private boolean hasSnapshot;
    private final History history;
    private final BookingText text;
    private final int[] bedsTaken;

    public HutBookings() {
        hut = new Hut();
        trial = new Hut();
        snapshot = new Hut();
        hasSnapshot = false;
        history = new History();
        text = new BookingText();
        bedsTaken = new int[LAST_DAY + 1];
    }

    // ---- bookings

    public int book(int arrives, int nights, int persons) {
        int error = hut.bookingError(arrives, nights, persons);
        if (error != 0) {
            return error;
        }
        history.remember(hut);
        return hut.addBooking(arrives, nights, persons);
    }

    public int bookAll() {
        int place = text.findFault();
        if (place != NONE) {
            return TEXT_ERROR - place;
        }
        trial.copyFrom(hut);
        for (int i = 0; i < text.found; i++) {
            int error = trial.bookingError(text.arrives[i], text.nights[i], text.persons[i]);
            if (error != 0) {
                return error;
            }
            trial.addBooking(text.arrives[i], text.nights[i], text.persons[i]);
        }
        history.remember(hut);
        hut.copyFrom(trial);
        return text.found;
    }

    public int cancel(int booking) {
        int error = errorUnlessBooked(booking);
        if (error != 0) {
            return error;
        }
        history.remember(hut);
        return hut.cancelBooking(booking);
    }

    public int extend(int booking, int nights) {
        if (!hut.guests.knows(booking)) {
            return UNKNOWN;
        }
        if (nights < 1 || nights > NIGHTS_MOST) {
            return BAD_VALUE;
        }
        if (!hut.canStayLonger(booking, nights)) {
            return NOT_POSSIBLE;
        }
        history.remember(hut);
        hut.guests.nights[booking] += nights;
        return hut.guests.end(booking);
    }

    // ---- weather, food, flights

    public int weather(int from, int to, int weather) {
        if (from < hut.today || to < from || to > LAST_DAY || weather < 0 || weather > 7) {
            return BAD_VALUE;
        }
        int changes = hut.daysWithOtherWeather(from, to, weather);
        if (changes == 0) {
            return NONE;
        }
        history.remember(hut);
        hut.changeWeather(from, to, weather);
        return changes;
    }

    public int order(int kind, int portions) {
        if (kind < 0 || kind > 1 || portions < 1 || portions > PORTIONS_MOST) {
            return BAD_VALUE;
        }
        if (hut.orders.size >= ORDERS_MOST) {
            return FULL;
        }
        history.remember(hut);
        hut.orders.append(kind, portions);
        return hut.orders.size;
    }

    public int recall() {
        if (hut.orders.size < 1) {
            return NONE;
        }
        history.remember(hut);
        return hut.orders.removeLast();
    }

    public int flight(boolean called) {
        if (hut.flightCalled == called) {
            return NONE;
        }
        history.remember(hut);
        hut.flightCalled = called;
        return hut.tally[FLIGHTS];
    }

    public int pass(int days) {
        if (days < 1 || days > PASS_MOST) {
            return BAD_VALUE;
        }
        if (hut.today + days > LAST_DAY) {
            return FULL;
        }
        history.remember(hut);
        for (int i = 0; i < days; i++) {
            hut.passDay();
        }
        return hut.today;
    }

    public int set(int which, int value) {
        if (which < 0 || which >= SETTINGS) {
            return BAD_VALUE;
        }
        if (value < SETTING_LEAST[which] || value > SETTING_MOST[which]) {
            return BAD_VALUE;
        }
        if (which == BEDS && mostBedsTaken() > value) {
            return NOT_POSSIBLE;
        }
        int previous = hut.settings[which];
        if (previous == value) {
            return NONE;
        }
        history.remember(hut);
        hut.settings[which] = value;
        return previous;
    }

    // ---- texts

    public int type(char character) {
        if (text.length >= TEXT_MOST) {
            return FULL;
        }
        text.append(character);
        return text.length;
    }

    public int clearText() {
        int length = text.length;
        text.length = 0;
        return length;
    }

    public int fault() {
        return text.findFault();
    }

    // ---- history

    public int undo() {
        if (history.size < 1) {
            return NONE;
        }
        history.giveBack(hut);
        return history.size;
    }

    public int keep() {
        snapshot.copyFrom(hut);
        hasSnapshot = true;
        return hut.today;
    }

    public int restore() {
        if (!hasSnapshot) {
            return NONE;
        }
        history.remember(hut);
        hut.copyFrom(snapshot);
        return hut.today;
    }

    // ---- what is told

    public int booking(int booking, int what) {
        Guests guests = hut.guests;
        if (!guests.knows(booking)) {
            return UNKNOWN;
        }
        switch (what) {
            case 0: return guests.how[booking];
            case 1: return guests.arrives[booking];
            case 2: return guests.nights[booking];
            case 3: return guests.persons[booking];
            case 4: return guests.end(booking);
            case 5: return guests.slept[booking];
            case 6: return hut.isStrandedNow(booking) ? 1 : 0;
            case 7: return guests.deposit[booking];
            case 8: return guests.came[booking] == NOT_COME ? NONE : guests.came[booking];
            default: return BAD_VALUE;
        }
    }

    public int day(int day, int what) {
        if (day < 0 || day > LAST_DAY) {
            return BAD_VALUE;
        }
        switch (what) {
            case 0: return hut.guests.bedsTakenIn(day);
            case 1: return hut.settings[BEDS] - hut.guests.bedsTakenIn(day);
            case 2: return hut.weatherOf(day);
            case 3: return hut.guests.arrivingOn(day);
            case 4: return hut.guests.endingOn(day);
            default: return BAD_VALUE;
        }
    }

    public int fresh(int rank, int what) {
        if (rank < 0 || what < 0 || what > 1) {
            return BAD_VALUE;
        }
        int came = hut.larder.dayOfRank(hut.today, rank);
        if (came == NONE) {
            return NONE;
        }
        return what == 0 ? came : hut.larder.freshOf(came);
    }

    public int waiting(int rank, int what) {
        if (rank < 0 || what < 0 || what > 1) {
            return BAD_VALUE;
        }
        if (rank >= hut.orders.size) {
            return NONE;
        }
        return what == 0 ? hut.orders.kinds[rank] : hut.orders.portions[rank];
    }

    public int count(int what) {
        if (what >= FIRST_TALLY && what < FIRST_TALLY + TALLIES) {
            return hut.tally[what - FIRST_TALLY];
        }
        if (what >= FIRST_SETTING && what < FIRST_SETTING + SETTINGS) {
            return hut.settings[what - FIRST_SETTING];
        }
        switch (what) {
            case 0: return hut.today;
            case 1: return hut.guests.made;
            case 2: return hut.guests.howMany(BOOKED);
            case 3: return hut.guests.howMany(THERE);
            case 4: return hut.guests.howMany(GONE);
            case 5: return hut.guests.howMany(CANCELLED);
            case 6: return hut.guests.howMany(TURNED_AWAY);
            case 7: return hut.guests.personsThere();
            case 8: return Math.max(0, hut.guests.personsThere() - hut.settings[BEDS]);
            case 9: return hut.larder.allFresh();
            case 10: return hut.larder.dry;
            case 11: return hut.orders.size;
            case 12: return hut.orders.allPortions();
            case 13: return hut.flightCalled ? 1 : 0;
            case 23: return history.size;
            case 24: return text.length;
            default: return BAD_VALUE;
        }
    }

    public int coins(int what) {
        switch (what) {
            case 0: return hut.purse;
            case 1: return hut.guests.depositsHeld();
            case 2: return hut.depositsKept;
            case 3: return hut.flightsPaid;
            default: return BAD_VALUE;
        }
    }

    public double use(int from, int to) {
        int beds = hut.settings[BEDS];
        if (from < 0 || to < from || to > LAST_DAY || beds < 1) {
            return -1.0;
        }
        double taken = (double) hut.guests.bedsTakenFrom(from, to);
        return taken / (double) ((to - from + 1) * beds);
    }

    // ---- what would be

    public int refund(int booking) {
        int error = errorUnlessBooked(booking);
        return error != 0 ? error : hut.refundOf(booking);
    }

    public int firstFree(int nights, int persons) {
        if (!areNightsAndPersons(nights, persons)) {
            return BAD_VALUE;
        }
        hut.guests.fillBedsTaken(bedsTaken);
        int freeInARow = 0;
        for (int night = hut.today; night < LAST_ARRIVAL + nights && night < bedsTaken.length; night++) {
            boolean free = bedsTaken[night] + persons <= hut.settings[BEDS];
            freeInARow = free ? freeInARow + 1 : 0;
            if (freeInARow == nights) {
                return night - nights + 1;
            }
        }
        return NONE;
    }

    public int hungryIn() {
        trial.copyFrom(hut);
        for (int days = 1; days <= FORESIGHT; days++) {
            trial.passDay();
            if (trial.tally[HUNGRY] > hut.tally[HUNGRY]) {
                return days;
            }
        }
        return NONE;
    }

    public int wanting(int days) {
        if (days < 1 || days > FORESIGHT) {
            return BAD_VALUE;
        }
        // Dry food is eaten last and never spoils, so each portion more feeds just one who would be hungry.
        passInTrial(days);
        return trial.tally[HUNGRY] - hut.tally[HUNGRY];
    }

    public int goneIn(int booking) {
        if (!hut.guests.knows(booking)) {
            return UNKNOWN;
        }
        if (!hut.guests.holdsBeds(booking)) {
            return NOT_POSSIBLE;
        }
        trial.copyFrom(hut);
        for (int days = 1; days <= FORESIGHT; days++) {
            trial.passDay();
            if (trial.guests.how[booking] == GONE) {
                return days;
            }
        }
        return NONE;
    }

    public int turnedAway(int days) {
        if (days < 1 || days > FORESIGHT) {
            return BAD_VALUE;
        }
        passInTrial(days);
        return trial.tally[PERSONS_TURNED_AWAY] - hut.tally[PERSONS_TURNED_AWAY];
    }

    public int bestCall() {
        if (hut.flightCalled) {
            return NONE;
        }
        trial.copyFrom(hut);
        int best = NONE;
        int most = 0;
        // A flight that is called on a windy day waits: this is the soonest call that waits for the day at hand.
        int soonest = 0;
        for (int ahead = 0; ahead < FORESIGHT && soonest <= CALL_LATEST; ahead++) {
            trial.beginDay();
            if (!trial.isWindy()) {
                int persons = trial.fillSeats(false);
                if (persons > most) {
                    most = persons;
                    best = soonest;
                }
                soonest = ahead + 1;
            }
            trial.endDay();
        }
        return best;
    }

    public int fullest() {
        hut.guests.fillBedsTaken(bedsTaken);
        int best = NONE;
        int most = 0;
        for (int night = hut.today; night < bedsTaken.length; night++) {
            if (bedsTaken[night] > most) {
                most = bedsTaken[night];
                best = night;
            }
        }
        return best;
    }

    private int errorUnlessBooked(int booking) {
        if (!hut.guests.knows(booking)) {
            return UNKNOWN;
        }
        return hut.guests.how[booking] == BOOKED ? 0 : NOT_POSSIBLE;
    }

    private int mostBedsTaken() {
        int night = fullest();
        return night == NONE ? 0 : hut.guests.bedsTakenIn(night);
    }

    private void passInTrial(int days) {
        trial.copyFrom(hut);
        for (int i = 0; i < days; i++) {
            trial.passDay();
        }
    }

    private static boolean areNightsAndPersons(int nights, int persons) {
        return nights >= 1 && nights <= NIGHTS_MOST && persons >= 1 && persons <= PERSONS_MOST;
    }

    /** A state: all that undo and the snapshot bring back. */
    private static final class Hut {
        final int[] settings;
        final int[] weatherRow;
        final Guests guests;
        final Larder larder;
        final Orders orders;
        final int[] tally;
        int today;
        boolean flightCalled;
        int purse;
        int depositsKept;
        int flightsPaid;

        Hut() {
            settings = new int[SETTINGS];
            System.arraycopy(SETTING_FIRST, 0, settings, 0, SETTINGS);
            weatherRow = new int[LAST_DAY + 1];
            guests = new Guests();
            larder = new Larder();
            orders = new Orders();
            tally = new int[TALLIES];
        }

        void copyFrom(Hut other) {
            System.arraycopy(other.settings, 0, settings, 0, SETTINGS);
            System.arraycopy(other.weatherRow, 0, weatherRow, 0, LAST_DAY + 1);
            guests.copyFrom(other.guests);
            larder.copyFrom(other.larder);
            orders.copyFrom(other.orders);
            System.arraycopy(other.tally, 0, tally, 0, TALLIES);
            today = other.today;
            flightCalled = other.flightCalled;
            purse = other.purse;
            depositsKept = other.depositsKept;
            flightsPaid = other.flightsPaid;
        }

        // What is tried may go past the last day, and finds fair weather there.
        int weatherOf(int day) {
            return day < 0 || day > LAST_DAY ? 0 : weatherRow[day];
        }

        boolean isUpOpen(int day) {
            return (weatherOf(day) & UP_CLOSED) == 0;
        }

        boolean isDownOpen() {
            return (weatherOf(today) & DOWN_CLOSED) == 0;
        }

        boolean isWindy() {
            return (weatherOf(today) & TOO_WINDY) != 0;
        }

        int daysWithOtherWeather(int from, int to, int weather) {
            int days = 0;
            for (int day = from; day <= to && day <= LAST_DAY; day++) {
                if (weatherOf(day) != weather) {
                    days++;
                }
            }
            return days;
        }

        void changeWeather(int from, int to, int weather) {
            for (int day = Math.max(0, from); day <= to && day <= LAST_DAY; day++) {
                weatherRow[day] = weather;
            }
        }

        /** 0 if it can be booked. */
        int bookingError(int arrives, int nights, int persons) {
            if (arrives < today || arrives > LAST_ARRIVAL || !areNightsAndPersons(nights, persons)) {
                return BAD_VALUE;
            }
            if (!hasBeds(arrives, nights, persons)) {
                return NOT_POSSIBLE;
            }
            return guests.made >= BOOKINGS_MOST ? FULL : 0;
        }

        int addBooking(int arrives, int nights, int persons) {
            int paid = persons * nights * settings[DEPOSIT];
            purse += paid;
            return guests.add(arrives, nights, persons, paid);
        }

        boolean hasBeds(int from, int nights, int persons) {
            for (int i = 0; i < nights; i++) {
                if (guests.bedsTakenIn(from + i) + persons > settings[BEDS]) {
                    return false;
                }
            }
            return true;
        }

        int refundOf(int booking) {
            int arrives = guests.arrives[booking];
            boolean inTime = arrives - today >= settings[NOTICE];
            return inTime || !isUpOpen(arrives) ? guests.deposit[booking] : 0;
        }

        int cancelBooking(int booking) {
            int back = refundOf(booking);
            guests.how[booking] = CANCELLED;
            purse -= back;
            depositsKept += guests.deposit[booking] - back;
            return back;
        }

        boolean canStayLonger(int booking, int nights) {
            int end = guests.end(booking);
            return guests.how[booking] == THERE
                && end >= today
                && guests.nights[booking] + nights <= NIGHTS_MOST
                && hasBeds(end, nights, guests.persons[booking]);
        }

        boolean isStrandedNow(int booking) {
            return guests.isOver(booking, today) && !isDownOpen();
        }

        void passDay() {
            beginDay();
            if (flightCalled && !isWindy()) {
                fly();
            }
            endDay();
        }

        /** The steps of a day that come before a flight. */
        void beginDay() {
            tally[SPOILT] += larder.throwSpoiltAway(today, settings[FRESH_KEEPS]);
            if (isDownOpen()) {
                letGroupsLeave();
            }
            turnLateOnesAway();
            if (isUpOpen(today)) {
                letGroupsCome();
                bring(settings[CARRIED_A_DAY]);
            }
        }

        /** The steps of a day that come behind a flight. */
        void endDay() {
            letAllEat();
            letAllSleep();
            today++;
        }

        private void letGroupsLeave() {
            for (int i = 0; i < guests.made; i++) {
                if (guests.isOver(i, today)) {
                    letLeave(i);
                }
            }
        }

        private void letLeave(int booking) {
            // Nights behind the end are slept by necessity, and not paid.
            int paidNights = guests.end(booking) - guests.came[booking];
            purse += settings[PRICE] * guests.persons[booking] * paidNights - guests.deposit[booking];
            guests.how[booking] = GONE;
        }

        private void turnLateOnesAway() {
            for (int i = 0; i < guests.made; i++) {
                if (guests.how[i] == BOOKED && guests.end(i) <= today) {
                    turnAway(i);
                }
            }
        }

        private void turnAway(int booking) {
            guests.how[booking] = TURNED_AWAY;
            purse -= guests.deposit[booking];
            tally[PERSONS_TURNED_AWAY] += guests.persons[booking];
        }

        private void letGroupsCome() {
            int places = settings[BEDS] + settings[MATTRESSES];
            int there = guests.personsThere();
            for (int i = 0; i < guests.made; i++) {
                if (guests.how[i] != BOOKED || guests.arrives[i] > today) {
                    continue;
                }
                if (there + guests.persons[i] <= places) {
                    guests.how[i] = THERE;
                    guests.came[i] = today;
                    there += guests.persons[i];
                } else {
                    turnAway(i);
                }
            }
        }

        private void bring(int most) {
            int left = most;
            for (int i = 0; i < ORDERS_MOST && left > 0 && orders.size > 0; i++) {
                int kind = orders.kinds[0];
                int portions = orders.takeFromFirst(left);
                larder.store(kind, portions, today);
                tally[BROUGHT] += portions;
                left -= portions;
            }
        }

        private void fly() {
            bring(settings[FLOWN_A_FLIGHT]);
            tally[TAKEN_DOWN] += fillSeats(true);
            tally[FLIGHTS]++;
            purse -= settings[FLIGHT_COINS];
            flightsPaid += settings[FLIGHT_COINS];
            flightCalled = false;
        }

        /** The persons whom a flight takes down on this day; they stay there if it only would. */
        int fillSeats(boolean indeed) {
            int filled = 0;
            for (int i = 0; i < guests.made; i++) {
                if (guests.isOver(i, today) && filled + guests.persons[i] <= settings[SEATS]) {
                    filled += guests.persons[i];
                    if (indeed) {
                        letLeave(i);
                    }
                }
            }
            return filled;
        }

        private void letAllEat() {
            int persons = guests.personsThere();
            int eaten = larder.eat(persons, today);
            tally[EATEN] += eaten;
            tally[HUNGRY] += persons - eaten;
        }

        private void letAllSleep() {
            for (int i = 0; i < guests.made; i++) {
                if (guests.how[i] == THERE) {
                    guests.slept[i]++;
                    tally[SLEPT] += guests.persons[i];
                }
                if (guests.isOver(i, today)) {
                    tally[STRANDED] += guests.persons[i];
                }
            }
        }
    }

    /** The bookings that were made, by their numbers. */
    private static final class Guests {
        final int[] how;
        final int[] arrives;
        final int[] nights;
        final int[] persons;
        final int[] slept;
        final int[] deposit;
        final int[] came;
        int made;

        Guests() {
            how = new int[BOOKINGS_MOST];
            arrives = new int[BOOKINGS_MOST];
            nights = new int[BOOKINGS_MOST];
            persons = new int[BOOKINGS_MOST];
            slept = new int[BOOKINGS_MOST];
            deposit = new int[BOOKINGS_MOST];
            came = new int[BOOKINGS_MOST];
        }

        void copyFrom(Guests other) {
            made = other.made;
            System.arraycopy(other.how, 0, how, 0, made);
            System.arraycopy(other.arrives, 0, arrives, 0, made);
            System.arraycopy(other.nights, 0, nights, 0, made);
            System.arraycopy(other.persons, 0, persons, 0, made);
            System.arraycopy(other.slept, 0, slept, 0, made);
            System.arraycopy(other.deposit, 0, deposit, 0, made);
            System.arraycopy(other.came, 0, came, 0, made);
        }

        int add(int arrival, int stay, int group, int paid) {
            if (made >= BOOKINGS_MOST) {
                return FULL;
            }
            how[made] = BOOKED;
            arrives[made] = arrival;
            nights[made] = stay;
            persons[made] = group;
            slept[made] = 0;
            deposit[made] = paid;
            came[made] = NOT_COME;
            made++;
            return made - 1;
        }

        boolean knows(int booking) {
            return booking >= 0 && booking < made;
        }

        int end(int booking) {
            return arrives[booking] + nights[booking];
        }

        boolean holdsBeds(int booking) {
            return how[booking] == BOOKED || how[booking] == THERE;
        }

        boolean isOver(int booking, int today) {
            return how[booking] == THERE && end(booking) <= today;
        }

        int bedsTakenIn(int night) {
            return bedsTakenFrom(night, night);
        }

        int bedsTakenFrom(int from, int to) {
            int taken = 0;
            for (int i = 0; i < made; i++) {
                int shared = Math.min(end(i), to + 1) - Math.max(arrives[i], from);
                if (holdsBeds(i) && shared > 0) {
                    taken += shared * persons[i];
                }
            }
            return taken;
        }

        void fillBedsTaken(int[] row) {
            Arrays.fill(row, 0);
            for (int i = 0; i < made; i++) {
                if (!holdsBeds(i)) {
                    continue;
                }
                for (int night = Math.max(0, arrives[i]); night < end(i) && night < row.length; night++) {
                    row[night] += persons[i];
                }
            }
        }

        int arrivingOn(int day) {
            int bookings = 0;
            for (int i = 0; i < made; i++) {
                if (how[i] == BOOKED && arrives[i] == day) {
                    bookings++;
                }
            }
            return bookings;
        }

        int endingOn(int day) {
            int bookings = 0;
            for (int i = 0; i < made; i++) {
                if (holdsBeds(i) && end(i) == day) {
                    bookings++;
                }
            }
            return bookings;
        }

        int howMany(int wanted) {
            int bookings = 0;
            for (int i = 0; i < made; i++) {
                if (how[i] == wanted) {
                    bookings++;
                }
            }
            return bookings;
        }

        int personsThere() {
            int there = 0;
            for (int i = 0; i < made; i++) {
                if (how[i] == THERE) {
                    there += persons[i];
                }
            }
            return there;
        }

        int depositsHeld() {
            int held = 0;
            for (int i = 0; i < made; i++) {
                if (holdsBeds(i)) {
                    held += deposit[i];
                }
            }
            return held;
        }
    }

    /** The food that is there. */
    private static final class Larder {
        // Fresh food is gone when it is as old as KEEPS_MOST days, so the slot of its day is free again then.
        final int[] fresh;
        int dry;

        Larder() {
            fresh = new int[KEEPS_MOST];
        }

        void copyFrom(Larder other) {
            System.arraycopy(other.fresh, 0, fresh, 0, KEEPS_MOST);
            dry = other.dry;
        }

        private static int slotOf(int day) {
            return Math.floorMod(day, KEEPS_MOST);
        }

        int freshOf(int day) {
            return fresh[slotOf(day)];
        }

        int allFresh() {
            int portions = 0;
            for (int i = 0; i < KEEPS_MOST; i++) {
                portions += fresh[i];
            }
            return portions;
        }

        int dayOfRank(int today, int rank) {
            int earlier = 0;
            for (int day = today - KEEPS_MOST; day < today; day++) {
                if (freshOf(day) == 0) {
                    continue;
                }
                if (earlier == rank) {
                    return day;
                }
                earlier++;
            }
            return NONE;
        }

        int throwSpoiltAway(int today, int keeps) {
            int spoilt = 0;
            for (int day = today - KEEPS_MOST; day <= today - keeps; day++) {
                int slot = slotOf(day);
                spoilt += fresh[slot];
                fresh[slot] = 0;
            }
            return spoilt;
        }

        void store(int kind, int portions, int today) {
            if (kind == FRESH) {
                fresh[slotOf(today)] += portions;
            } else {
                dry += portions;
            }
        }

        int eat(int persons, int today) {
            int eaten = 0;
            for (int day = today - KEEPS_MOST + 1; day <= today; day++) {
                int slot = slotOf(day);
                int portions = Math.min(persons - eaten, fresh[slot]);
                fresh[slot] -= portions;
                eaten += portions;
            }
            int portions = Math.min(persons - eaten, dry);
            dry -= portions;
            return eaten + portions;
        }
    }

    /** The row of orders that wait, the first one at 0. */
    private static final class Orders {
        final int[] kinds;
        final int[] portions;
        int size;

        Orders() {
            kinds = new int[ORDERS_MOST];
            portions = new int[ORDERS_MOST];
        }

        void copyFrom(Orders other) {
            size = other.size;
            System.arraycopy(other.kinds, 0, kinds, 0, size);
            System.arraycopy(other.portions, 0, portions, 0, size);
        }

        void append(int kind, int wanted) {
            if (size < ORDERS_MOST) {
                kinds[size] = kind;
                portions[size] = wanted;
                size++;
            }
        }

        int removeLast() {
            if (size < 1) {
                return 0;
            }
            size--;
            return portions[size];
        }

        int takeFromFirst(int most) {
            if (size < 1) {
                return 0;
            }
            int taken = Math.min(most, portions[0]);
            portions[0] -= taken;
            if (portions[0] == 0) {
                removeFirst();
            }
            return taken;
        }

        private void removeFirst() {
            for (int i = 1; i < size; i++) {
                kinds[i - 1] = kinds[i];
                portions[i - 1] = portions[i];
            }
            size--;
        }

        int allPortions() {
            int all = 0;
            for (int i = 0; i < size; i++) {
                all += portions[i];
            }
            return all;
        }
    }

    /** The states that can be brought back, the oldest one at 0. */
    private static final class History {
        private final Hut[] states;
        int size;

        History() {
            states = new Hut[HISTORY_MOST];
            for (int i = 0; i < HISTORY_MOST; i++) {
                states[i] = new Hut();
            }
        }

        void remember(Hut hut) {
            if (size >= HISTORY_MOST) {
                dropOldest();
            }
            states[size].copyFrom(hut);
            size++;
        }

        private void dropOldest() {
            // The dropped one goes to the back, where its rows are used again.
            Hut oldest = states[0];
            for (int i = 1; i < HISTORY_MOST; i++) {
                states[i - 1] = states[i];
            }
            states[HISTORY_MOST - 1] = oldest;
            size = HISTORY_MOST - 1;
        }

        void giveBack(Hut hut) {
            if (size > 0) {
                size--;
                hut.copyFrom(states[size]);
            }
        }
    }

    /** The text that is typed, and the bookings that are read from it. */
    private static final class BookingText {
        // What may stand at a place of the text.
        private static final int DAY_BEGINS = 0;
        private static final int DAY_GOES_ON = 1;
        private static final int NIGHTS = 2;
        private static final int TIMES = 3;
        private static final int PERSONS = 4;
        private static final int BEHIND = 5;

        private final char[] characters;
        int length;
        final int[] arrives;
        final int[] nights;
        final int[] persons;
        int found;
        private int place;
        private int dayRead;
        private int nightsRead;

        BookingText() {
            characters = new char[TEXT_MOST];
            arrives = new int[BOOKINGS_IN_TEXT_MOST];
            nights = new int[BOOKINGS_IN_TEXT_MOST];
            persons = new int[BOOKINGS_IN_TEXT_MOST];
        }

        void append(char character) {
            if (length < TEXT_MOST) {
                characters[length] = character;
                length++;
            }
        }

        /** Reads the text; the bookings that were found count only if this answers NONE. */
        int findFault() {
            found = 0;
            place = DAY_BEGINS;
            for (int i = 0; i < length; i++) {
                if (!accepts(characters[i])) {
                    return i;
                }
            }
            return place == BEHIND ? NONE : length;
        }

        private boolean accepts(char c) {
            switch (place) {
                case DAY_BEGINS: return acceptsDayBegin(c);
                case DAY_GOES_ON: return c == '+' ? moveTo(NIGHTS) : acceptsDayDigit(c);
                case NIGHTS: return acceptsNights(c);
                case TIMES: return c == 'x' && moveTo(PERSONS);
                case PERSONS: return acceptsPersons(c);
                default: return c == ';' && moveTo(DAY_BEGINS);
            }
        }

        private boolean moveTo(int next) {
            place = next;
            return true;
        }

        private boolean acceptsDayBegin(char c) {
            if (c < '0' || c > '9') {
                return false;
            }
            dayRead = c - '0';
            return moveTo(DAY_GOES_ON);
        }

        private boolean acceptsDayDigit(char c) {
            // A day that is 0 so far has a zero in front, which no further digit may follow.
            if (c < '0' || c > '9' || dayRead == 0) {
                return false;
            }
            int longer = dayRead * 10 + (c - '0');
            if (longer > LAST_ARRIVAL) {
                return false;
            }
            dayRead = longer;
            return true;
        }

        private boolean acceptsNights(char c) {
            if (c < '1' || c > '9') {
                return false;
            }
            nightsRead = c - '0';
            return moveTo(TIMES);
        }

        private boolean acceptsPersons(char c) {
            if (c < '1' || c > '9' || found >= BOOKINGS_IN_TEXT_MOST) {
                return false;
            }
            arrives[found] = dayRead;
            nights[found] = nightsRead;
            persons[found] = c - '0';
            found++;
            return moveTo(BEHIND);
        }
    }
}
