import java.util.ArrayDeque;
import java.util.ArrayList;
import java.util.Deque;
import java.util.List;
import java.util.TreeMap;

/**
 * The document once more, in the slowest and plainest way: new states for all that is tried, and every
 * "what would be" found by trying. ModelTest compares HutBookings with it.
 */
final class PlainHut {
    static final int UNKNOWN = -1000001;
    static final int BAD = -1000002;
    static final int FULL = -1000003;
    static final int NOT_POSSIBLE = -1000004;
    static final int NONE = -1000005;
    private static final int[][] RANGES = {
        {1, 40}, {0, 20}, {0, 99}, {0, 99}, {0, 30}, {1, 30}, {0, 50}, {0, 99}, {0, 20}, {0, 999},
    };

    private enum How { BOOKED, THERE, GONE, CANCELLED, TURNED_AWAY }

    private static final class Group {
        How how = How.BOOKED;
        int arrives;
        int nights;
        int persons;
        int slept;
        int sleptBeforeEnd;
        int deposit;
        Integer came;

        Group copy() {
            Group copy = new Group();
            copy.how = how;
            copy.arrives = arrives;
            copy.nights = nights;
            copy.persons = persons;
            copy.slept = slept;
            copy.sleptBeforeEnd = sleptBeforeEnd;
            copy.deposit = deposit;
            copy.came = came;
            return copy;
        }

        int end() {
            return arrives + nights;
        }

        boolean holds() {
            return how == How.BOOKED || how == How.THERE;
        }

        boolean has(int night) {
            return arrives <= night && night < end();
        }
    }

    private static final class State {
        int[] settings = {10, 4, 20, 5, 3, 4, 12, 20, 3, 100};
        TreeMap<Integer, Integer> weather = new TreeMap<>();
        List<Group> groups = new ArrayList<>();
        TreeMap<Integer, Integer> fresh = new TreeMap<>();
        int dry;
        List<int[]> orders = new ArrayList<>();
        int now;
        boolean called;
        int flights;
        int takenDown;
        int brought;
        int eaten;
        int spoilt;
        int hungry;
        int stranded;
        int slept;
        int turnedAway;
        int deposits;
        int paid;
        int givenBack;
        int kept;
        int flown;

        State copy() {
            State copy = new State();
            copy.settings = settings.clone();
            copy.weather = new TreeMap<>(weather);
            for (Group group : groups) {
                copy.groups.add(group.copy());
            }
            copy.fresh = new TreeMap<>(fresh);
            copy.dry = dry;
            for (int[] order : orders) {
                copy.orders.add(order.clone());
            }
            copy.now = now;
            copy.called = called;
            copy.flights = flights;
            copy.takenDown = takenDown;
            copy.brought = brought;
            copy.eaten = eaten;
            copy.spoilt = spoilt;
            copy.hungry = hungry;
            copy.stranded = stranded;
            copy.slept = slept;
            copy.turnedAway = turnedAway;
            copy.deposits = deposits;
            copy.paid = paid;
            copy.givenBack = givenBack;
            copy.kept = kept;
            copy.flown = flown;
            return copy;
        }

        int weatherOf(int day) {
            return weather.getOrDefault(day, 0);
        }

        boolean upOpen(int day) {
            return weatherOf(day) % 2 == 0;
        }

        boolean downOpen(int day) {
            return weatherOf(day) / 2 % 2 == 0;
        }

        boolean calm(int day) {
            return weatherOf(day) < 4;
        }

        int taken(int night) {
            int taken = 0;
            for (Group group : groups) {
                taken += group.holds() && group.has(night) ? group.persons : 0;
            }
            return taken;
        }

        int left(int night) {
            return settings[0] - taken(night);
        }

        int personsThere() {
            int there = 0;
            for (Group group : groups) {
                there += group.how == How.THERE ? group.persons : 0;
            }
            return there;
        }

        int many(How how) {
            int many = 0;
            for (Group group : groups) {
                many += group.how == how ? 1 : 0;
            }
            return many;
        }

        int book(int arrives, int nights, int persons) {
            if (arrives < now || arrives > 899 || nights < 1 || nights > 9 || persons < 1 || persons > 9) {
                return BAD;
            }
            for (int night = arrives; night < arrives + nights; night++) {
                if (persons > left(night)) {
                    return NOT_POSSIBLE;
                }
            }
            if (groups.size() == 80) {
                return FULL;
            }
            Group group = new Group();
            group.arrives = arrives;
            group.nights = nights;
            group.persons = persons;
            group.deposit = persons * nights * settings[3];
            deposits += group.deposit;
            groups.add(group);
            return groups.size() - 1;
        }

        void giveBack(int coins) {
            givenBack += coins;
        }

        void leave(Group group) {
            group.how = How.GONE;
            int price = settings[2] * group.persons * group.sleptBeforeEnd;
            if (price >= group.deposit) {
                paid += price - group.deposit;
            } else {
                giveBack(group.deposit - price);
            }
        }

        void turnAway(Group group) {
            group.how = How.TURNED_AWAY;
            giveBack(group.deposit);
            turnedAway += group.persons;
        }

        void bring(int most) {
            for (int portion = 0; portion < most && !orders.isEmpty(); portion++) {
                int[] first = orders.get(0);
                if (first[0] == 0) {
                    fresh.merge(now, 1, Integer::sum);
                } else {
                    dry++;
                }
                brought++;
                first[1]--;
                if (first[1] == 0) {
                    orders.remove(0);
                }
            }
        }

        void passDay() {
            int d = now;
            while (!fresh.isEmpty() && fresh.firstKey() <= d - settings[5]) {
                spoilt += fresh.remove(fresh.firstKey());
            }
            for (Group group : groups) {
                if (downOpen(d) && group.how == How.THERE && group.end() <= d) {
                    leave(group);
                }
            }
            for (Group group : groups) {
                if (group.how == How.BOOKED && group.end() <= d) {
                    turnAway(group);
                }
            }
            for (Group group : groups) {
                if (upOpen(d) && group.how == How.BOOKED && group.arrives <= d) {
                    if (group.persons + personsThere() <= settings[0] + settings[1]) {
                        group.how = How.THERE;
                        group.came = d;
                    } else {
                        turnAway(group);
                    }
                }
            }
            if (upOpen(d)) {
                bring(settings[6]);
            }
            if (called && calm(d)) {
                fly(d);
            }
            int mouths = personsThere();
            for (int mouth = 0; mouth < mouths; mouth++) {
                eatOne();
            }
            for (Group group : groups) {
                if (group.how == How.THERE) {
                    group.slept++;
                    group.sleptBeforeEnd += d < group.end() ? 1 : 0;
                    slept += group.persons;
                    stranded += group.end() <= d ? group.persons : 0;
                }
            }
            now++;
        }

        void fly(int d) {
            bring(settings[7]);
            int seats = settings[8];
            for (Group group : groups) {
                if (group.how == How.THERE && group.end() <= d && group.persons <= seats) {
                    seats -= group.persons;
                    takenDown += group.persons;
                    leave(group);
                }
            }
            flown += settings[9];
            flights++;
            called = false;
        }

        void eatOne() {
            if (!fresh.isEmpty()) {
                int day = fresh.firstKey();
                fresh.merge(day, -1, Integer::sum);
                if (fresh.get(day) == 0) {
                    fresh.remove(day);
                }
                eaten++;
            } else if (dry > 0) {
                dry--;
                eaten++;
            } else {
                hungry++;
            }
        }

        State after(int days) {
            State later = copy();
            for (int i = 0; i < days; i++) {
                later.passDay();
            }
            return later;
        }
    }

    private State state = new State();
    private State snapshot;
    private final Deque<State> history = new ArrayDeque<>();
    private String text = "";

    private void record() {
        if (history.size() == 4) {
            history.removeFirst();
        }
        history.addLast(state.copy());
    }

    private Group group(int number) {
        return number < 0 || number >= state.groups.size() ? null : state.groups.get(number);
    }

    int book(int arrives, int nights, int persons) {
        State next = state.copy();
        int answer = next.book(arrives, nights, persons);
        if (answer >= 0) {
            record();
            state = next;
        }
        return answer;
    }

    int bookAll() {
        int fault = fault();
        if (fault != NONE) {
            return -100 - fault;
        }
        State next = state.copy();
        String[] parts = text.split(";");
        for (String part : parts) {
            String[] numbers = part.split("[+x]");
            int answer = next.book(Integer.parseInt(numbers[0]), Integer.parseInt(numbers[1]),
                Integer.parseInt(numbers[2]));
            if (answer < 0) {
                return answer;
            }
        }
        record();
        state = next;
        return parts.length;
    }

    int cancel(int booking) {
        int back = refund(booking);
        if (back >= 0) {
            record();
            Group group = group(booking);
            group.how = How.CANCELLED;
            state.giveBack(back);
            state.kept += group.deposit - back;
        }
        return back;
    }

    int extend(int booking, int nights) {
        Group group = group(booking);
        if (group == null) {
            return UNKNOWN;
        }
        if (nights < 1 || nights > 9) {
            return BAD;
        }
        if (group.how != How.THERE || group.end() < state.now || group.nights + nights > 9) {
            return NOT_POSSIBLE;
        }
        for (int night = group.end(); night < group.end() + nights; night++) {
            if (state.left(night) < group.persons) {
                return NOT_POSSIBLE;
            }
        }
        record();
        group.nights += nights;
        return group.end();
    }

    int weather(int from, int to, int weather) {
        if (from < state.now || from > 999 || to < from || to > 999 || weather < 0 || weather > 7) {
            return BAD;
        }
        State next = state.copy();
        int changed = 0;
        for (int day = from; day <= to; day++) {
            changed += state.weatherOf(day) != weather ? 1 : 0;
            next.weather.put(day, weather);
        }
        if (changed == 0) {
            return NONE;
        }
        record();
        state = next;
        return changed;
    }

    int order(int kind, int portions) {
        if (kind < 0 || kind > 1 || portions < 1 || portions > 99) {
            return BAD;
        }
        if (state.orders.size() == 12) {
            return FULL;
        }
        record();
        state.orders.add(new int[] {kind, portions});
        return state.orders.size();
    }

    int recall() {
        if (state.orders.isEmpty()) {
            return NONE;
        }
        record();
        return state.orders.remove(state.orders.size() - 1)[1];
    }

    int flight(boolean called) {
        if (state.called == called) {
            return NONE;
        }
        record();
        state.called = called;
        return state.flights;
    }

    int pass(int days) {
        if (days < 1 || days > 30) {
            return BAD;
        }
        if (state.now + days > 999) {
            return FULL;
        }
        record();
        state = state.after(days);
        return state.now;
    }

    int set(int which, int value) {
        if (which < 0 || which > 9 || value < RANGES[which][0] || value > RANGES[which][1]) {
            return BAD;
        }
        for (int night = state.now; which == 0 && night <= 999; night++) {
            if (state.taken(night) > value) {
                return NOT_POSSIBLE;
            }
        }
        int previous = state.settings[which];
        if (previous == value) {
            return NONE;
        }
        record();
        state.settings[which] = value;
        return previous;
    }

    int type(char character) {
        if (text.length() == 60) {
            return FULL;
        }
        text += character;
        return text.length();
    }

    int clearText() {
        int length = text.length();
        text = "";
        return length;
    }

    /** A text is good so far if it can be made a text of bookings by something behind it. */
    private static boolean goodSoFar(String begun) {
        String day = "(0|[1-9]|[1-9][0-9]|[1-8][0-9][0-9])";
        String whole = "(" + day + "\\+[1-9]x[1-9];)*";
        return begun.matches(whole + "(" + day + "(\\+([1-9](x([1-9])?)?)?)?)?");
    }

    int fault() {
        for (int i = 0; i < text.length(); i++) {
            if (!goodSoFar(text.substring(0, i + 1))) {
                return i;
            }
        }
        return text.matches("(.*;)?[0-9]+\\+[0-9]x[0-9]") ? NONE : text.length();
    }

    int undo() {
        if (history.isEmpty()) {
            return NONE;
        }
        state = history.removeLast();
        return history.size();
    }

    int keep() {
        snapshot = state.copy();
        return state.now;
    }

    int restore() {
        if (snapshot == null) {
            return NONE;
        }
        record();
        state = snapshot.copy();
        return state.now;
    }

    int booking(int booking, int what) {
        Group group = group(booking);
        if (group == null) {
            return UNKNOWN;
        }
        if (what < 0 || what > 8) {
            return BAD;
        }
        boolean stranded = group.how == How.THERE && group.end() <= state.now && !state.downOpen(state.now);
        int came = group.came == null ? NONE : group.came;
        int[] told = {group.how.ordinal(), group.arrives, group.nights, group.persons, group.end(), group.slept,
            stranded ? 1 : 0, group.deposit, came};
        return told[what];
    }

    int day(int day, int what) {
        if (day < 0 || day > 999 || what < 0 || what > 4) {
            return BAD;
        }
        int arriving = 0;
        int ending = 0;
        for (Group group : state.groups) {
            arriving += group.how == How.BOOKED && group.arrives == day ? 1 : 0;
            ending += group.holds() && group.end() == day ? 1 : 0;
        }
        int[] told = {state.taken(day), state.left(day), state.weatherOf(day), arriving, ending};
        return told[what];
    }

    int fresh(int rank, int what) {
        if (rank < 0 || what < 0 || what > 1) {
            return BAD;
        }
        List<Integer> days = new ArrayList<>(state.fresh.keySet());
        if (rank >= days.size()) {
            return NONE;
        }
        return what == 0 ? days.get(rank) : state.fresh.get(days.get(rank));
    }

    int waiting(int rank, int what) {
        if (rank < 0 || what < 0 || what > 1) {
            return BAD;
        }
        return rank >= state.orders.size() ? NONE : state.orders.get(rank)[what];
    }

    int count(int what) {
        int freshPortions = 0;
        for (int portions : state.fresh.values()) {
            freshPortions += portions;
        }
        int ordered = 0;
        for (int[] order : state.orders) {
            ordered += order[1];
        }
        int there = state.personsThere();
        int mattresses = there > state.settings[0] ? there - state.settings[0] : 0;
        int[] s = state.settings;
        int[] told = {state.now, state.groups.size(), state.many(How.BOOKED), state.many(How.THERE),
            state.many(How.GONE), state.many(How.CANCELLED), state.many(How.TURNED_AWAY), there, mattresses,
            freshPortions, state.dry, state.orders.size(), ordered, state.called ? 1 : 0, state.flights,
            state.takenDown, state.brought, state.eaten, state.spoilt, state.hungry, state.stranded, state.slept,
            state.turnedAway, history.size(), text.length(), s[0], s[1], s[2], s[3], s[4], s[5], s[6], s[7], s[8],
            s[9]};
        return what < 0 || what >= told.length ? BAD : told[what];
    }

    int coins(int what) {
        int held = 0;
        for (Group group : state.groups) {
            held += group.holds() ? group.deposit : 0;
        }
        int[] told = {state.deposits + state.paid - state.givenBack - state.flown, held, state.kept, state.flown};
        return what < 0 || what > 3 ? BAD : told[what];
    }

    double use(int from, int to) {
        if (from < 0 || from > 999 || to < from || to > 999) {
            return -1.0;
        }
        int sum = 0;
        for (int night = from; night <= to; night++) {
            sum += state.taken(night);
        }
        int days = to - from + 1;
        return (double) sum / (double) (days * state.settings[0]);
    }

    int refund(int booking) {
        Group group = group(booking);
        if (group == null) {
            return UNKNOWN;
        }
        if (group.how != How.BOOKED) {
            return NOT_POSSIBLE;
        }
        boolean back = group.arrives - state.now >= state.settings[4] || !state.upOpen(group.arrives);
        return back ? group.deposit : 0;
    }

    int firstFree(int nights, int persons) {
        if (nights < 1 || nights > 9 || persons < 1 || persons > 9) {
            return BAD;
        }
        for (int day = state.now; day <= 899; day++) {
            boolean free = true;
            for (int night = day; night < day + nights; night++) {
                free = free && persons <= state.left(night);
            }
            if (free) {
                return day;
            }
        }
        return NONE;
    }

    int hungryIn() {
        State later = state;
        for (int days = 1; days <= 60; days++) {
            later = later.after(1);
            if (later.hungry > state.hungry) {
                return days;
            }
        }
        return NONE;
    }

    int wanting(int days) {
        if (days < 1 || days > 60) {
            return BAD;
        }
        State trial = state.copy();
        int more = 0;
        while (trial.after(days).hungry > trial.hungry) {
            trial.dry++;
            more++;
        }
        return more;
    }

    int goneIn(int booking) {
        Group group = group(booking);
        if (group == null) {
            return UNKNOWN;
        }
        if (!group.holds()) {
            return NOT_POSSIBLE;
        }
        State later = state;
        for (int days = 1; days <= 60; days++) {
            later = later.after(1);
            if (later.groups.get(booking).how == How.GONE) {
                return days;
            }
        }
        return NONE;
    }

    int turnedAway(int days) {
        if (days < 1 || days > 60) {
            return BAD;
        }
        return state.after(days).turnedAway - state.turnedAway;
    }

    int bestCall() {
        if (state.called) {
            return NONE;
        }
        int best = NONE;
        int most = 0;
        State waits = state.copy();
        for (int in = 0; in <= 30; in++) {
            State trial = waits.copy();
            trial.called = true;
            for (int day = in; day < 60; day++) {
                trial.passDay();
            }
            if (trial.takenDown - state.takenDown > most) {
                most = trial.takenDown - state.takenDown;
                best = in;
            }
            waits.passDay();
        }
        return best;
    }

    int fullest() {
        int best = NONE;
        for (int night = state.now; night <= 999; night++) {
            if (state.taken(night) > (best == NONE ? 0 : state.taken(best))) {
                best = night;
            }
        }
        return best;
    }
}
