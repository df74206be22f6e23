/** Gates across a road for one hour of trains and road users; ../shared/DOC.md tells every term. */
public final class FourTenGates {
    public static final int BAD = -1, NO = -2, FULL = -3, NONE = -4;

    private static final String AT_FIRST =
        "t10,0;t13,1;t30,2;t41,0;u8,0;u9,1;u12,2;u29,3;u31,0;u40,0;g4;c20;a60,30;k6,14;k29,32;k38,43;o0,5;o2,3;o5,2;";

    private static final int MOST_LETTERS = 200;
    private static final int MOST_TRAINS = 6, MOST_USERS = 8, MOST_CLOSINGS = 6, MOST_ODDS = 5;
    private static final int MOST_SEEN = 8, MOST_UNDONE = 8, MOST_KEPT = 2;
    // the widest row of pairs that is ever told: users, and what was seen
    private static final int MOST_PAIRS = 8;

    private static final int BEATS = 360, MINUTES = 60, BEATS_A_MINUTE = 6;
    // a beat that no hour has
    private static final int NEVER = 1000000;

    private static final int SLOW = 0, FAST = 1, GOODS = 2;
    private static final int CART = 0, FLOCK = 1, DOCTOR = 2, BICYCLE = 3, SORTS = 4;
    private static final int OPEN = 0, MOVING = 1, SHUT = 2;
    private static final int PLAN = 0, BELL = 1, SIGHT = 2, HELD = 3, RULES = 4;
    // none of the four: what LEAD would want, from some beats ahead of each train on
    private static final int AHEAD = 4;

    private static final int SLOW_BELL = 66, FAST_BELL = 36, HELD_BEATS = 24, PASSING_BEATS = 3;
    private static final int CART_BEATS = 2, FLOCK_BEATS = 30, QUICK_BEATS = 1;
    private static final int MOST_LATE = 30, MOST_LEAD = 99;
    // lifts what is saved above the marks below 0
    private static final int MORE_SHIFT = 99999;
    private static final int MOST_DAYS = 999, MOST_BRIDGE = 99, BRIDGE_UNIT = 100, TENTHS = 10, MOST_DRAW = 9999;

    private final Text text = new Text();
    private final Book book = new Book();
    // a text is read in here first, so that one with a fault leaves the book as it is
    private final Book draft = new Book();
    private final Stand now = new Stand();
    // questions of what would be are asked here, so that the hour itself stays as it is
    private final Stand trial = new Stand();
    private final Hour[] hours = new Hour[RULES];
    private final Hour trialHour = new Hour(book, trial);
    private final Pile undoable = new Pile(MOST_UNDONE);
    private final Pile kept = new Pile(MOST_KEPT);
    private final Pairs sightings = new Pairs(MOST_SEEN);
    private boolean leadKnown = false;
    private int leadBeats = 0;
    private int leadCost = 0;

    public FourTenGates() {
        for (int rule = 0; rule < RULES; rule++) {
            hours[rule] = new Hour(book, now);
        }
        for (int k = 0; k < AT_FIRST.length(); k++) {
            text.add(AT_FIRST.charAt(k));
        }
        layText();
        text.empty();
    }

    // ---- crossings

    public int write(int letter) {
        if (!between(letter, 32, 126)) {
            return BAD;
        }
        return text.add(letter) ? text.size() : FULL;
    }

    public int wipe() {
        return text.empty();
    }

    public int fault() {
        return text.readInto(draft);
    }

    public int lay() {
        return layText() ? book.trains.size() : NO;
    }

    public int train(int i, int what) {
        if (!isTrain(i) || !between(what, 0, 3)) {
            return BAD;
        }
        switch (what) {
            case 0: return book.trains.first(i);
            case 1: return book.trains.second(i);
            case 2: return now.lateOf(i);
            default: return bellOf(i);
        }
    }

    public int user(int i, int what) {
        if (!isUser(i) || !between(what, 0, 1)) {
            return BAD;
        }
        return what == 0 ? book.users.first(i) : book.users.second(i);
    }

    // ---- an hour

    public int gates(int rule, int beat) {
        return isRule(rule) && isBeat(beat) ? hourBy(rule).gatesAt(beat) : BAD;
    }

    public int passed(int rule, int i) {
        return isRule(rule) && isTrain(i) ? hourBy(rule).beginOf(i) : BAD;
    }

    public int stopped(int rule, int i) {
        return isRule(rule) && isTrain(i) ? hourBy(rule).stopsOf(i) : BAD;
    }

    public int crossed(int rule, int i) {
        return isRule(rule) && isUser(i) ? hourBy(rule).crossingOf(i) : BAD;
    }

    public int waited(int rule, int i) {
        return isRule(rule) && isUser(i) ? hourBy(rule).waitOf(i) : BAD;
    }

    public int cost(int rule) {
        return isRule(rule) ? hourBy(rule).total() : BAD;
    }

    // ---- changes

    public int late(int i, int minutes) {
        if (!isTrain(i) || !between(minutes, 0, MOST_LATE)) {
            return BAD;
        }
        int was = now.lateOf(i);
        beginChange();
        now.makeLate(i, minutes);
        return was;
    }

    public int shut(int a, int b) {
        if (!isClosing(a, b)) {
            return BAD;
        }
        if (now.closings.isFull()) {
            return FULL;
        }
        beginChange();
        now.closings.add(a, b);
        return now.closings.size();
    }

    public int leave(int k) {
        if (!between(k, 0, now.closings.size() - 1)) {
            return BAD;
        }
        beginChange();
        now.closings.remove(k);
        return now.closings.size();
    }

    public int undo() {
        if (!undoable.pop(now)) {
            return NO;
        }
        outdateHours();
        return undoable.size();
    }

    // ---- rules

    public int cheapest(int what) {
        if (!between(what, 0, 1)) {
            return BAD;
        }
        int best = 0;
        for (int rule = 1; rule < RULES; rule++) {
            if (hourBy(rule).total() < hourBy(best).total()) {
                best = rule;
            }
        }
        return what == 0 ? best : hourBy(best).total();
    }

    public int lead(int what) {
        if (!between(what, 0, 1)) {
            return BAD;
        }
        if (!leadKnown) {
            findLead();
        }
        return what == 0 ? leadBeats : leadCost;
    }

    public int more(int rule, int i, int d) {
        if (!isRule(rule) || !isTrain(i) || !between(d, 1, 9)) {
            return BAD;
        }
        int minutes = now.lateOf(i) + d;
        if (minutes > MOST_LATE) {
            return NO;
        }
        return costIfLate(rule, i, minutes) - hourBy(rule).total() + MORE_SHIFT;
    }

    public int dinner(int rule, int what) {
        if (!isRule(rule) || !between(what, 0, 1)) {
            return BAD;
        }
        Hour hour = hourBy(rule);
        int longest = 0;
        int first = NONE;
        int row = 0;
        for (int beat = 0; beat < BEATS; beat++) {
            row = hour.gatesAt(beat) == OPEN ? row + 1 : 0;
            if (row > longest) {
                longest = row;
                first = beat - row + 1;
            }
        }
        if (longest == 0) {
            return NONE;
        }
        return what == 0 ? longest : first;
    }

    // ---- what was

    public int byNow(int m, int d, int part) {
        if (!isToldLateness(m) || !isToldLateness(d) || !between(part, 0, 1)) {
            return BAD;
        }
        int still = 0;
        int such = 0;
        for (int k = 0; k < book.odds.size(); k++) {
            int minutes = book.odds.first(k);
            if (minutes > m) {
                still += book.odds.second(k);
                such += minutes == d ? book.odds.second(k) : 0;
            }
        }
        return still == 0 ? NONE : partOf(such, still, part);
    }

    public int which(int m) {
        if (!isMinute(m)) {
            return BAD;
        }
        int bits = 0;
        for (int i = 0; i < book.trains.size(); i++) {
            int bell = bellOf(i);
            if (bell != NONE && bell / BEATS_A_MINUTE == m) {
                bits |= 1 << i;
            }
        }
        return bits;
    }

    public int seen(int beat, int how) {
        if (!isBeat(beat) || !between(how, OPEN, SHUT)) {
            return BAD;
        }
        return sightings.add(beat, how) ? sightings.size() : FULL;
    }

    public int forget() {
        return sightings.empty();
    }

    public int fits() {
        int bits = 0;
        for (int rule = 0; rule < RULES; rule++) {
            if (isAsSeen(hourBy(rule))) {
                bits |= 1 << rule;
            }
        }
        return bits;
    }

    // ---- years

    public int bridge(int rule, int x) {
        if (!isRule(rule) || !between(x, 1, MOST_BRIDGE)) {
            return BAD;
        }
        int daily = hourBy(rule).total();
        if (daily <= 0) {
            return NONE;
        }
        int days = (BRIDGE_UNIT * x + daily - 1) / daily;
        return days <= MOST_DAYS ? days : NONE;
    }

    public int mean(int rule, int i, int part) {
        if (!isRule(rule) || !isTrain(i) || !between(part, 0, 1)) {
            return BAD;
        }
        if (book.odds.size() == 0) {
            return NONE;
        }
        int sum = 0;
        for (int k = 0; k < book.odds.size(); k++) {
            int tenths = book.odds.second(k);
            if (tenths > 0) {
                sum += tenths * costIfLate(rule, i, book.odds.first(k));
            }
        }
        return partOf(sum, TENTHS, part);
    }

    public int day(int rule, int z, int what) {
        if (!isRule(rule) || !between(z, 0, MOST_DRAW) || !between(what, 0, 1)) {
            return BAD;
        }
        trial.copy(now);
        for (int i = 0; i < book.trains.size(); i++) {
            trial.makeLate(i, drawnLateness(z, i));
        }
        trialHour.run(rule, 0, NEVER);
        return what == 0 ? trialHour.total() : trialHour.allStops();
    }

    // ---- kept

    public int keep() {
        if (kept.isFull()) {
            return FULL;
        }
        kept.push(now);
        return kept.size();
    }

    public int back() {
        if (!kept.pop(now)) {
            return NO;
        }
        undoable.empty();
        outdateHours();
        return kept.size();
    }

    public int count(int what) {
        switch (what) {
            case 0: return book.trains.size();
            case 1: return book.users.size();
            case 2: return now.closings.size();
            case 3: return sightings.size();
            case 4: return undoable.size();
            case 5: return kept.size();
            case 6: return text.size();
            default: return BAD;
        }
    }

    private static boolean between(int number, int least, int most) {
        return number >= least && number <= most;
    }

    private static boolean isRule(int rule) {
        return between(rule, 0, RULES - 1);
    }

    private static boolean isBeat(int beat) {
        return between(beat, 0, BEATS - 1);
    }

    private static boolean isMinute(int minute) {
        return between(minute, 0, MINUTES - 1);
    }

    private static boolean isToldLateness(int minutes) {
        return between(minutes, 0, 9);
    }

    private static boolean isClosing(int a, int b) {
        return between(a, 0, MINUTES) && between(b, 0, MINUTES) && a < b;
    }

    private boolean isTrain(int i) {
        return between(i, 0, book.trains.size() - 1);
    }

    private boolean isUser(int i) {
        return between(i, 0, book.users.size() - 1);
    }

    private boolean layText() {
        if (text.readInto(draft) != NONE || !draft.canBeLaid()) {
            return false;
        }
        book.copy(draft);
        now.begin(book.closings);
        sightings.empty();
        undoable.empty();
        kept.empty();
        outdateHours();
        return true;
    }

    private void beginChange() {
        undoable.push(now);
        outdateHours();
    }

    private void outdateHours() {
        for (int rule = 0; rule < RULES; rule++) {
            hours[rule].outdate();
        }
        leadKnown = false;
    }

    /** The hour as things stand; the rule is one of the four. */
    private Hour hourBy(int rule) {
        Hour hour = hours[Math.max(0, Math.min(rule, RULES - 1))];
        if (!hour.isUpToDate()) {
            hour.run(rule, 0, NEVER);
        }
        return hour;
    }

    private int costIfLate(int rule, int i, int minutes) {
        trial.copy(now);
        trial.makeLate(i, minutes);
        trialHour.run(rule, 0, NEVER);
        return trialHour.total();
    }

    private void findLead() {
        trial.copy(now);
        leadBeats = 0;
        leadCost = NEVER;
        for (int n = 0; n <= MOST_LEAD; n++) {
            // an hour that costs as much already cannot be the least any more
            trialHour.run(AHEAD, n, leadCost);
            if (trialHour.total() < leadCost) {
                leadCost = trialHour.total();
                leadBeats = n;
            }
        }
        leadKnown = true;
    }

    private static int drawnLateness(int z, int i) {
        long q = 7919L * z + 6151L * i + 1L;
        return (int) (q * q % 65521L % 6L);
    }

    private boolean isAsSeen(Hour hour) {
        for (int k = 0; k < sightings.size(); k++) {
            if (hour.gatesAt(sightings.first(k)) != sightings.second(k)) {
                return false;
            }
        }
        return true;
    }

    /** Of above / below in lowest terms the upper (0) or the lower (1) part; below is 1 to 10. */
    private static int partOf(int above, int below, int part) {
        int common = 1;
        for (int d = 2; d <= below; d++) {
            if (above % d == 0 && below % d == 0) {
                common = d;
            }
        }
        return (part == 0 ? above : below) / common;
    }

    private int bellOf(int i) {
        int bell = bellBeat(book.trains.second(i), now.comingOf(book.trains, i));
        return bell < BEATS ? bell : NONE;
    }

    private static int bellBeat(int kind, int comes) {
        switch (kind) {
            case SLOW: return Math.max(0, comes - SLOW_BELL);
            case FAST: return Math.max(0, comes - FAST_BELL);
            default: return NEVER;
        }
    }

    /** Pairs of numbers, told one behind the other, up to a limit. */
    private static final class Pairs {
        private final int[] firsts = new int[MOST_PAIRS];
        private final int[] seconds = new int[MOST_PAIRS];
        private final int limit;
        private int size = 0;

        Pairs(int limit) {
            this.limit = Math.min(limit, MOST_PAIRS);
        }

        int size() {
            return size;
        }

        boolean isFull() {
            return size >= limit;
        }

        int first(int k) {
            return k >= 0 && k < size ? firsts[k] : 0;
        }

        int second(int k) {
            return k >= 0 && k < size ? seconds[k] : 0;
        }

        boolean add(int first, int second) {
            if (isFull()) {
                return false;
            }
            firsts[size] = first;
            seconds[size] = second;
            size++;
            return true;
        }

        void remove(int k) {
            if (!between(k, 0, size - 1)) {
                return;
            }
            for (int at = k; at + 1 < size; at++) {
                firsts[at] = firsts[at + 1];
                seconds[at] = seconds[at + 1];
            }
            size--;
        }

        int empty() {
            int was = size;
            size = 0;
            return was;
        }

        void copy(Pairs other) {
            empty();
            for (int k = 0; k < other.size(); k++) {
                add(other.first(k), other.second(k));
            }
        }
    }

    /** What a text tells: all that stays as it is until another text is laid. */
    private static final class Book {
        final Pairs trains = new Pairs(MOST_TRAINS);
        final Pairs users = new Pairs(MOST_USERS);
        final Pairs closings = new Pairs(MOST_CLOSINGS);
        final Pairs odds = new Pairs(MOST_ODDS);
        private final int[] waitCosts = new int[SORTS];
        private int gateBeats = 0;
        private int stopCost = 0;
        private int patience = 0;
        private int roundCost = 0;

        int gateBeats() {
            return gateBeats;
        }

        int stopCost() {
            return stopCost;
        }

        int waitCost(int sort) {
            return between(sort, 0, SORTS - 1) ? waitCosts[sort] : 0;
        }

        int patience() {
            return patience;
        }

        int roundCost() {
            return roundCost;
        }

        /** As a text that tells nothing leaves it. */
        void begin() {
            trains.empty();
            users.empty();
            closings.empty();
            odds.empty();
            for (int sort = 0; sort < SORTS; sort++) {
                waitCosts[sort] = sort == DOCTOR ? 5 : 1;
            }
            gateBeats = 4;
            stopCost = 20;
            patience = 60;
            roundCost = 30;
        }

        void copy(Book other) {
            trains.copy(other.trains);
            users.copy(other.users);
            closings.copy(other.closings);
            odds.copy(other.odds);
            for (int sort = 0; sort < SORTS; sort++) {
                waitCosts[sort] = other.waitCost(sort);
            }
            gateBeats = other.gateBeats();
            stopCost = other.stopCost();
            patience = other.patience();
            roundCost = other.roundCost();
        }

        boolean canBeLaid() {
            int tenths = 0;
            for (int k = 0; k < odds.size(); k++) {
                tenths += odds.second(k);
            }
            return trains.size() > 0 && (odds.size() == 0 || tenths == TENTHS);
        }

        /** Whether this is an item that a text may have here; if so, it is told. */
        boolean take(int letter, int first, int second) {
            switch (letter) {
                case 't': return isMinute(first) && between(second, SLOW, GOODS) && trains.add(first, second);
                case 'u': return isMinute(first) && between(second, CART, BICYCLE) && users.add(first, second);
                case 'g': return takeGates(first);
                case 'c': return takeStopCost(first);
                case 'w': return takeWaitCost(first, second);
                case 'a': return takePatience(first, second);
                case 'k': return isClosing(first, second) && closings.add(first, second);
                case 'o': return isToldLateness(first) && between(second, 0, TENTHS) && odds.add(first, second);
                default: return false;
            }
        }

        private boolean takeGates(int beats) {
            if (!between(beats, 1, 9)) {
                return false;
            }
            gateBeats = beats;
            return true;
        }

        private boolean takeStopCost(int each) {
            if (!between(each, 0, 99)) {
                return false;
            }
            stopCost = each;
            return true;
        }

        private boolean takeWaitCost(int sort, int each) {
            if (!between(sort, 0, SORTS - 1) || !between(each, 0, 9)) {
                return false;
            }
            waitCosts[sort] = each;
            return true;
        }

        private boolean takePatience(int beats, int cost) {
            if (!between(beats, 1, 99) || !between(cost, 0, 99)) {
                return false;
            }
            patience = beats;
            roundCost = cost;
            return true;
        }
    }

    /** THE TEXT, and how it is read, item by item. */
    private static final class Text {
        private final int[] letters = new int[MOST_LETTERS];
        private int size = 0;
        // what was read last, beside the place behind it
        private int number = 0;

        int size() {
            return size;
        }

        boolean add(int letter) {
            if (size >= MOST_LETTERS) {
                return false;
            }
            letters[size] = letter;
            size++;
            return true;
        }

        int empty() {
            int was = size;
            size = 0;
            return was;
        }

        /** The place of the first item that is not as it should be, or NONE. */
        int readInto(Book into) {
            into.begin();
            int place = 0;
            // each item has letters of its own, so there are fewer items than letters
            for (int items = 0; items < MOST_LETTERS && place < size; items++) {
                int behind = readItem(place, into);
                if (behind == NONE) {
                    return place;
                }
                place = behind;
            }
            return NONE;
        }

        /** The place behind the item, or NONE. */
        private int readItem(int place, Book into) {
            int letter = letterAt(place);
            boolean single = letter == 'g' || letter == 'c';
            int end = readNumber(place + 1);
            int first = number;
            int second = 0;
            if (!single && end != NONE) {
                end = letterAt(end) == ',' ? readNumber(end + 1) : NONE;
                second = number;
            }
            if (end == NONE || letterAt(end) != ';') {
                return NONE;
            }
            return into.take(letter, first, second) ? end + 1 : NONE;
        }

        /** The place behind a number of one or two figures, or NONE. */
        private int readNumber(int place) {
            if (!isFigure(place)) {
                return NONE;
            }
            number = letterAt(place) - '0';
            if (!isFigure(place + 1)) {
                return place + 1;
            }
            number = number * 10 + letterAt(place + 1) - '0';
            return place + 2;
        }

        private boolean isFigure(int place) {
            return between(letterAt(place), '0', '9');
        }

        /** 0, which no text has, where there is no letter. */
        private int letterAt(int place) {
            return place >= 0 && place < size ? letters[place] : 0;
        }
    }

    /** What can be changed, undone and kept: how late trains are, and the closings. */
    private static final class Stand {
        final Pairs closings = new Pairs(MOST_CLOSINGS);
        private final int[] minutesLate = new int[MOST_TRAINS];

        void begin(Pairs toldClosings) {
            closings.copy(toldClosings);
            for (int i = 0; i < MOST_TRAINS; i++) {
                minutesLate[i] = 0;
            }
        }

        void copy(Stand other) {
            closings.copy(other.closings);
            for (int i = 0; i < MOST_TRAINS; i++) {
                minutesLate[i] = other.lateOf(i);
            }
        }

        int lateOf(int i) {
            return between(i, 0, MOST_TRAINS - 1) ? minutesLate[i] : 0;
        }

        void makeLate(int i, int minutes) {
            if (between(i, 0, MOST_TRAINS - 1)) {
                minutesLate[i] = minutes;
            }
        }

        /** The beat at which a train really comes; it may lie behind the hour. */
        int comingOf(Pairs trains, int i) {
            return (trains.first(i) + lateOf(i)) * BEATS_A_MINUTE;
        }

        boolean isPlannedShut(int beat) {
            for (int k = 0; k < closings.size(); k++) {
                if (beat >= closings.first(k) * BEATS_A_MINUTE && beat < closings.second(k) * BEATS_A_MINUTE) {
                    return true;
                }
            }
            return false;
        }
    }

    /** Stands laid one on the other; on a full pile the lowest one makes room. */
    private static final class Pile {
        private final Stand[] stands;
        private int size = 0;

        Pile(int limit) {
            stands = new Stand[Math.max(1, limit)];
            for (int k = 0; k < stands.length; k++) {
                stands[k] = new Stand();
            }
        }

        int size() {
            return size;
        }

        boolean isFull() {
            return size >= stands.length;
        }

        void empty() {
            size = 0;
        }

        void push(Stand stand) {
            if (isFull()) {
                dropLowest();
            }
            stands[size].copy(stand);
            size++;
        }

        boolean pop(Stand into) {
            if (size <= 0) {
                return false;
            }
            size--;
            into.copy(stands[size]);
            return true;
        }

        private void dropLowest() {
            Stand lowest = stands[0];
            for (int k = 0; k + 1 < stands.length; k++) {
                stands[k] = stands[k + 1];
            }
            // its rows are used again for what comes on top
            stands[stands.length - 1] = lowest;
            size--;
        }
    }

    /** One hour, beat by beat, of a book and a stand by a rule. */
    private static final class Hour {
        private final Book book;
        private final Stand stand;
        private final int[] gatesAtEnd = new int[BEATS];
        // a place behind the last train is NEVER in these rows, so that no loop over them asks how many there are
        private final int[] comings = new int[MOST_TRAINS];
        private final int[] wantedFrom = new int[MOST_TRAINS];
        private final int[] begins = new int[MOST_TRAINS];
        private final int[] stops = new int[MOST_TRAINS];
        private final int[] crossings = new int[MOST_USERS];
        private final int[] waits = new int[MOST_USERS];
        private int waitingBits = 0;
        private boolean upToDate = false;
        private int rule = PLAN;
        private int total = 0;
        private int gates = OPEN;
        private int movedTo = OPEN;
        private int moved = 0;
        private int roadFreeFrom = 0;
        private int railFreeFrom = 0;
        private boolean stoppedBefore = false;

        Hour(Book book, Stand stand) {
            this.book = book;
            this.stand = stand;
        }

        boolean isUpToDate() {
            return upToDate;
        }

        void outdate() {
            upToDate = false;
        }

        int gatesAt(int beat) {
            return beat >= 0 && beat < BEATS ? gatesAtEnd[beat] : OPEN;
        }

        int beginOf(int i) {
            return i >= 0 && i < MOST_TRAINS && begins[i] < BEATS ? begins[i] : NONE;
        }

        int stopsOf(int i) {
            return i >= 0 && i < MOST_TRAINS ? stops[i] : 0;
        }

        int crossingOf(int i) {
            return i >= 0 && i < MOST_USERS ? crossings[i] : NONE;
        }

        int waitOf(int i) {
            return i >= 0 && i < MOST_USERS ? waits[i] : 0;
        }

        int total() {
            return total;
        }

        int allStops() {
            int sum = 0;
            for (int i = 0; i < MOST_TRAINS; i++) {
                sum += stops[i];
            }
            return sum;
        }

        /** Breaks off once the cost is enough: then only that it is so much can be asked for. */
        void run(int byRule, int ahead, int enough) {
            rule = byRule;
            beginTrains(ahead);
            beginUsers();
            beginGates();
            for (int beat = 0; beat < BEATS && total < enough; beat++) {
                moveGates();
                turnGates(beat);
                runTrains(beat);
                runUsers(beat);
                gatesAtEnd[beat] = gates;
            }
            upToDate = true;
        }

        private void beginTrains(int ahead) {
            for (int i = 0; i < MOST_TRAINS; i++) {
                comings[i] = i < book.trains.size() ? stand.comingOf(book.trains, i) : NEVER;
                wantedFrom[i] = rule == AHEAD ? comings[i] - ahead : bellBeat(book.trains.second(i), comings[i]);
                begins[i] = NEVER;
                stops[i] = 0;
            }
            railFreeFrom = 0;
            stoppedBefore = false;
        }

        private void beginUsers() {
            for (int i = 0; i < MOST_USERS; i++) {
                crossings[i] = NONE;
                waits[i] = 0;
            }
            waitingBits = 0;
            roadFreeFrom = 0;
            total = 0;
        }

        private void beginGates() {
            gates = OPEN;
            movedTo = OPEN;
            moved = 0;
        }

        private void moveGates() {
            if (gates != MOVING) {
                return;
            }
            moved++;
            if (moved >= book.gateBeats()) {
                gates = movedTo;
            }
        }

        private void turnGates(int beat) {
            if (gates == OPEN && beat >= roadFreeFrom && wantsShut(beat)) {
                startMoving(SHUT);
            } else if (gates == SHUT && !isTrainInSight(beat) && !wantsShut(beat)) {
                startMoving(OPEN);
            }
        }

        private void startMoving(int to) {
            gates = MOVING;
            movedTo = to;
            moved = 0;
        }

        private boolean wantsShut(int beat) {
            switch (rule) {
                case PLAN: return stand.isPlannedShut(beat);
                case SIGHT: return isTrainInSight(beat);
                case HELD: return isTrainAwaited(beat) || isTrainInSight(beat) || isTrainDueByBook(beat);
                // these two differ only in the beat from which a train is awaited
                case BELL:
                case AHEAD:
                default: return isTrainAwaited(beat);
            }
        }

        private boolean isTrainAwaited(int beat) {
            for (int i = 0; i < MOST_TRAINS; i++) {
                if (beat >= wantedFrom[i] && !hasPassed(i, beat)) {
                    return true;
                }
            }
            return false;
        }

        private boolean isTrainInSight(int beat) {
            return beat < railFreeFrom || stoppedBefore;
        }

        private boolean isTrainDueByBook(int beat) {
            for (int i = 0; i < book.trains.size(); i++) {
                int due = book.trains.first(i) * BEATS_A_MINUTE;
                if (book.trains.second(i) != GOODS && between(due, beat, beat + HELD_BEATS) && !hasPassed(i, beat)) {
                    return true;
                }
            }
            return false;
        }

        private boolean hasPassed(int i, int beat) {
            return i >= 0 && i < MOST_TRAINS && beat >= begins[i] + PASSING_BEATS;
        }

        private void runTrains(int beat) {
            stoppedBefore = false;
            for (int i = 0; i < MOST_TRAINS; i++) {
                if (beat < comings[i] || begins[i] <= beat) {
                    continue;
                }
                if (gates == SHUT && beat >= railFreeFrom && beat >= roadFreeFrom) {
                    begins[i] = beat;
                    railFreeFrom = beat + PASSING_BEATS;
                } else {
                    stops[i]++;
                    total += book.stopCost();
                    stoppedBefore = true;
                }
            }
        }

        private void runUsers(int beat) {
            // users come on whole minutes alone
            if (beat % BEATS_A_MINUTE == 0) {
                meetUsers(beat / BEATS_A_MINUTE);
            }
            if (waitingBits == 0) {
                return;
            }
            if (beat >= roadFreeFrom && beat >= railFreeFrom) {
                letCross(firstToCross(), beat);
            }
            for (int i = 0; i < MOST_USERS; i++) {
                if (isWaiting(i)) {
                    waits[i]++;
                    payForWait(i, waits[i]);
                }
            }
        }

        private void meetUsers(int minute) {
            for (int i = 0; i < book.users.size(); i++) {
                if (book.users.first(i) == minute) {
                    waitingBits |= 1 << i;
                }
            }
        }

        private boolean isWaiting(int i) {
            return (waitingBits & 1 << i) != 0;
        }

        private int firstToCross() {
            int first = NONE;
            for (int i = 0; i < MOST_USERS; i++) {
                if (!isWaiting(i) || !canCross(book.users.second(i))) {
                    continue;
                }
                if (book.users.second(i) == DOCTOR) {
                    return i;
                }
                if (first == NONE) {
                    first = i;
                }
            }
            return first;
        }

        private boolean canCross(int sort) {
            return gates == OPEN || gates == MOVING && sort == BICYCLE;
        }

        private void letCross(int i, int beat) {
            if (i < 0 || i >= MOST_USERS) {
                return;
            }
            waitingBits &= ~(1 << i);
            crossings[i] = beat;
            roadFreeFrom = beat + beatsOnRoad(book.users.second(i));
        }

        private static int beatsOnRoad(int sort) {
            switch (sort) {
                case CART: return CART_BEATS;
                case FLOCK: return FLOCK_BEATS;
                default: return QUICK_BEATS;
            }
        }

        private void payForWait(int i, int beats) {
            total += book.waitCost(book.users.second(i));
            if (beats >= book.patience()) {
                waitingBits &= ~(1 << i);
                total += book.roundCost();
            }
        }
    }
}
