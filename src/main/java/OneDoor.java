/** A street of one door: houses in a row, and who goes through whose to his own. */
public final class OneDoor {
    public static final int BAD = -1, STATE = -2, FULL = -3, NONE = -9;
    public static final int NO = -1000000, STREET = -5;

    private static final int MOST_HOUSES = 9, MOST_PEOPLE = 6, MOST_BYTES = 150;
    private static final int MOST_UNDONE = 10, MOST_HATS = 6, IMAGES = 2;
    private static final int FIRST_TAX = 12, FIRST_WARM = 20;
    private static final int LAST_START = 60, LAST_HAT = 99, ALL_ODDS = 10;
    private static final int DOWN = 0, UP = 1;

    private final Reader reader;
    private final Told draft, told;
    private final Life life;
    private final Now state;
    private final Life[] images;
    private final boolean[] kept;
    private final Plan plan;
    private final int[] hatHouse, hatMinute;
    private int hatsSeen;
    private final Hall[] kinds;

    public OneDoor() {
        reader = new Reader();
        draft = new Told();
        told = new Told();
        life = new Life();
        state = life.state;
        images = new Life[IMAGES];
        for (int i = 0; i < IMAGES; i++) {
            images[i] = new Life();
        }
        kept = new boolean[IMAGES];
        plan = new Plan(told, state);
        hatHouse = new int[MOST_HATS];
        hatMinute = new int[MOST_HATS];
        kinds = new Hall[] {
            new Hall(told, state), new Kitchen(told, state), new Bath(told, state),
            new Piano(told, state), new Curtain(told, state), new Attic(told, state)};
    }

    // ---- the street

    public int type(int c) {
        if (c < 0 || c > 255) {
            return BAD;
        }
        if (reader.size >= MOST_BYTES) {
            return FULL;
        }
        reader.text[reader.size] = c;
        reader.size++;
        return reader.size;
    }

    public int clear() {
        int had = reader.size;
        reader.size = 0;
        return had;
    }

    public int street() {
        int answer = reader.readAll(draft);
        if (answer < 0) {
            return answer;
        }
        told.become(draft);
        life.begin(told);
        reader.size = 0;
        hatsSeen = 0;
        for (int i = 0; i < IMAGES; i++) {
            kept[i] = false;
        }
        return answer;
    }

    public int house(int h, int what) {
        if (!isHouse(h)) {
            return BAD;
        }
        switch (what) {
            case 0: return told.hall[h];
            case 1: return peopleAt(state.home, h);
            case 2: return peopleAt(state.place, h);
            case 3: return state.shut >> h & 1;
            case 4: return plan.minutesTo(h);
            default: return BAD;
        }
    }

    public int person(int p, int what) {
        if (!isPerson(p)) {
            return BAD;
        }
        switch (what) {
            case 0: return state.home[p];
            case 1: return told.errands[p];
            case 2: return state.patience[p];
            case 3: return state.place[p];
            case 4: return plan.passedInADay(p);
            default: return BAD;
        }
    }

    // ---- what is done

    public int steps(int p, int way) {
        if (!isPerson(p) || way < 0 || way > 2) {
            return BAD;
        }
        int to = stepEnd(state.place[p], way);
        if (to == NONE || !mayEnter(p, to)) {
            return STATE;
        }
        life.remember();
        move(p, to);
        return to;
    }

    public int shuts(int h, int is) {
        if (!isHouse(h) || is < 0 || is > 1) {
            return BAD;
        }
        if ((state.shut >> h & 1) == is) {
            return STATE;
        }
        life.remember();
        state.shut ^= 1 << h;
        return Integer.bitCount(state.shut);
    }

    public int exchanges(int p, int q) {
        if (!isPerson(p) || !isPerson(q) || p == q) {
            return BAD;
        }
        life.remember();
        int first = state.home[p];
        state.home[p] = state.home[q];
        state.home[q] = first;
        return state.home[p];
    }

    public int door(int h) {
        if (h != -1 && (h == 0 || !isHouse(h))) {
            return BAD;
        }
        life.remember();
        int was = state.other;
        state.other = h == -1 ? NONE : h;
        return was;
    }

    public int calms(int p) {
        if (!isPerson(p)) {
            return BAD;
        }
        life.remember();
        int was = state.patience[p];
        state.patience[p] = told.patience[p];
        return was;
    }

    public int undo() {
        if (life.known == 0) {
            return STATE;
        }
        life.forgo();
        return life.known;
    }

    public int now(int what) {
        switch (what) {
            case 0: return state.minute;
            case 1: return state.offended;
            case 2: return peopleAt(state.place, STREET);
            case 3: return state.other;
            case 4: return plan.passings(state.other);
            case 5: return plan.hurt();
            case 6: return plan.stopped(state.shut);
            case 7: return plan.toOpen();
            default: return BAD;
        }
    }

    // ---- how it should be

    public int homes(int p) {
        if (p != -1 && !isPerson(p)) {
            return BAD;
        }
        if (told.people == 0) {
            return NONE;
        }
        plan.giveHomes();
        return p == -1 ? plan.fewest : plan.best[p];
    }

    public int doorAt(int what) {
        if (what < 0 || what > 1) {
            return BAD;
        }
        int which = plan.bestDoor();
        return what == 0 || which == NONE ? which : plan.passings(which);
    }

    public int fair(int p, int what) {
        if (!isPerson(p) || what < 0 || what > 1) {
            return BAD;
        }
        int all = 0;
        for (int q = 0; q < told.people; q++) {
            all += plan.effort(q);
        }
        return all == 0 ? what : inLeastTerms(told.tax * plan.effort(p), all, what);
    }

    public int coffin(int h) {
        return isHouse(h) ? plan.blocked(h) : BAD;
    }

    // ---- hats, bread, meetings

    public int hats(int h, int m) {
        if (!isHouse(h) || m < 0 || m > LAST_HAT) {
            return BAD;
        }
        if (hatsSeen >= MOST_HATS) {
            return FULL;
        }
        hatHouse[hatsSeen] = h;
        hatMinute[hatsSeen] = m;
        hatsSeen++;
        return hatsSeen;
    }

    public int forget() {
        int were = hatsSeen;
        hatsSeen = 0;
        return were;
    }

    public int who() {
        int bits = 0;
        for (int p = 0; p < told.people; p++) {
            if (hatsFit(p)) {
                bits |= 1 << p;
            }
        }
        return bits;
    }

    public int bread() {
        int bits = 0;
        for (int h = 0; h < told.houses; h++) {
            if (plan.minutesTo(h) <= told.warm) {
                bits |= 1 << h;
            }
        }
        return bits;
    }

    public int meet(int p, int a, int q, int b) {
        if (!isPerson(p) || !isPerson(q) || p == q || !isStart(a) || !isStart(b)) {
            return BAD;
        }
        return plan.meeting(p, a, q, b);
    }

    public int odds(int p, int x, int what) {
        if (!isPerson(p) || x < 0 || x > ALL_ODDS || what < 0 || what > 1) {
            return BAD;
        }
        int upper = 1;
        int lower = 1;
        for (int n = plan.goersThrough(state.home[p]); n > 0; n--) {
            upper *= ALL_ODDS - x;
            lower *= ALL_ODDS;
        }
        return inLeastTerms(upper, lower, what);
    }

    // ---- kinds, images

    public int mark(int kind, int h) {
        if (kind < 0 || kind >= kinds.length || !isHouse(h)) {
            return NO;
        }
        return kinds[kind].worth(h);
    }

    public int keep(int image) {
        if (!isImage(image)) {
            return BAD;
        }
        images[image].become(life);
        kept[image] = true;
        return state.minute;
    }

    public int back(int image) {
        if (!isImage(image)) {
            return BAD;
        }
        if (!kept[image]) {
            return STATE;
        }
        life.become(images[image]);
        return state.minute;
    }

    public int count(int what) {
        switch (what) {
            case 0: return told.houses;
            case 1: return told.people;
            case 2: return told.tax;
            case 3: return told.warm;
            case 4: return hatsSeen;
            case 5: return life.known;
            case 6: return reader.size;
            default: return BAD;
        }
    }

    public long trace() {
        long sum = 0;
        for (int k = 0; k < kinds.length; k++) {
            sum += kinds[k].asked;
        }
        return sum;
    }

    // ---- helpers

    private boolean isHouse(int h) {
        return h >= 0 && h < told.houses;
    }

    private boolean isPerson(int p) {
        return p >= 0 && p < told.people;
    }

    private static boolean isStart(int minute) {
        return minute >= 0 && minute <= LAST_START;
    }

    private static boolean isImage(int image) {
        return image >= 0 && image < IMAGES;
    }

    private int peopleAt(int[] where, int place) {
        int bits = 0;
        for (int p = 0; p < told.people; p++) {
            if (where[p] == place) {
                bits |= 1 << p;
            }
        }
        return bits;
    }

    /** NONE, if there is no such step from there. */
    private int stepEnd(int from, int way) {
        if (way == DOWN) {
            return from == STREET ? NONE : from == 0 ? STREET : from - 1;
        }
        if (way == UP) {
            int next = from == STREET ? 0 : from + 1;
            return isHouse(next) ? next : NONE;
        }
        if (state.other == NONE) {
            return NONE;
        }
        return from == STREET ? state.other : from == state.other ? STREET : NONE;
    }

    private boolean mayEnter(int p, int to) {
        return to == STREET || to == state.home[p] || (state.shut >> to & 1) == 0;
    }

    private void move(int p, int to) {
        int from = state.place[p];
        if (isHouse(from)) {
            state.minute += told.hall[from];
        }
        state.place[p] = to;
        for (int q = 0; q < told.people; q++) {
            if (q != p && state.home[q] == to) {
                disturb(q);
            }
        }
    }

    private void disturb(int q) {
        state.patience[q] = Math.max(0, state.patience[q] - 1);
        // Who had none left already is offended anew each time.
        if (state.patience[q] == 0) {
            state.offended++;
        }
    }

    private boolean hatsFit(int p) {
        int home = state.home[p];
        int way = plan.wayTo(home);
        for (int s = 0; s <= LAST_START; s++) {
            if (hatsFitOut(home, way, s) || hatsFitIn(home, way, s)) {
                return true;
            }
        }
        return false;
    }

    private boolean hatsFitOut(int home, int way, int s) {
        for (int i = 0; i < hatsSeen; i++) {
            if (plan.placeOut(home, way, hatMinute[i] - s) != hatHouse[i]) {
                return false;
            }
        }
        return true;
    }

    private boolean hatsFitIn(int home, int way, int s) {
        for (int i = 0; i < hatsSeen; i++) {
            if (plan.placeIn(home, way, hatMinute[i] - s) != hatHouse[i]) {
                return false;
            }
        }
        return true;
    }

    private static int inLeastTerms(int upper, int lower, int what) {
        int divisor = commonDivisor(upper, lower);
        int number = what == 0 ? upper : lower;
        return divisor > 0 ? number / divisor : number;
    }

    private static int commonDivisor(int a, int b) {
        int large = a;
        int small = b;
        // Numbers of 31 bits need fewer than 50 rounds.
        for (int round = 0; round < 50 && small != 0; round++) {
            int rest = large % small;
            large = small;
            small = rest;
        }
        return large;
    }

    /** What the text tells; NOW departs from it, and this stays. */
    private static final class Told {
        final int[] hall = new int[MOST_HOUSES];
        final int[] home = new int[MOST_PEOPLE];
        final int[] errands = new int[MOST_PEOPLE];
        final int[] patience = new int[MOST_PEOPLE];
        int houses;
        int people;
        int tax = FIRST_TAX;
        int warm = FIRST_WARM;

        void empty() {
            houses = 0;
            people = 0;
            tax = FIRST_TAX;
            warm = FIRST_WARM;
        }

        void become(Told from) {
            System.arraycopy(from.hall, 0, hall, 0, MOST_HOUSES);
            System.arraycopy(from.home, 0, home, 0, MOST_PEOPLE);
            System.arraycopy(from.errands, 0, errands, 0, MOST_PEOPLE);
            System.arraycopy(from.patience, 0, patience, 0, MOST_PEOPLE);
            houses = from.houses;
            people = from.people;
            tax = from.tax;
            warm = from.warm;
        }
    }

    /** THE TEXT, and how it is read; its place stays at the token that can't stand. */
    private static final class Reader {
        private static final int END = 0, WORD = 1, NUMBER = 2, STOP = 3, WRONG = 4;
        private static final int BLANK = 32, FAULTS = -10, ABOVE_ALL = 100;

        final int[] text = new int[MOST_BYTES];
        int size;
        private int at;
        private int tokenAt;
        private int token;
        private int value;
        private boolean taxTold;
        private boolean warmTold;

        /** How many items the draft got, or FAULTS less the place of the fault. */
        int readAll(Told draft) {
            draft.empty();
            at = 0;
            taxTold = false;
            warmTold = false;
            for (int items = 0; items <= MOST_BYTES; items++) {
                readToken();
                if (token == END) {
                    return items;
                }
                if (!readItem(draft)) {
                    return FAULTS - tokenAt;
                }
            }
            return FAULTS - size;
        }

        private boolean readItem(Told draft) {
            if (token != WORD) {
                return false;
            }
            switch (value) {
                case 'h': return readHouse(draft);
                case 'p': return readPerson(draft);
                case 't': return readTax(draft);
                case 'w': return readWarm(draft);
                default: return false;
            }
        }

        private boolean readHouse(Told draft) {
            int h = draft.houses;
            if (h >= MOST_HOUSES || !readNumber(0, 9)) {
                return false;
            }
            draft.hall[h] = value;
            draft.houses = h + 1;
            return readStop();
        }

        private boolean readPerson(Told draft) {
            int p = draft.people;
            if (p >= MOST_PEOPLE || !readNumber(0, draft.houses - 1)) {
                return false;
            }
            draft.home[p] = value;
            if (!readNumber(0, 9)) {
                return false;
            }
            draft.errands[p] = value;
            if (!readNumber(0, 50)) {
                return false;
            }
            draft.patience[p] = value;
            draft.people = p + 1;
            return readStop();
        }

        private boolean readTax(Told draft) {
            if (taxTold || !readNumber(0, 99)) {
                return false;
            }
            taxTold = true;
            draft.tax = value;
            return readStop();
        }

        private boolean readWarm(Told draft) {
            if (warmTold || !readNumber(1, 60)) {
                return false;
            }
            warmTold = true;
            draft.warm = value;
            return readStop();
        }

        private boolean readNumber(int least, int most) {
            readToken();
            return token == NUMBER && value >= least && value <= most;
        }

        private boolean readStop() {
            readToken();
            return token == STOP;
        }

        private void readToken() {
            while (at < size && text[at] == BLANK) {
                at++;
            }
            tokenAt = at;
            if (at >= size) {
                token = END;
            } else if (isLetter(text[at])) {
                readLetters();
            } else if (isDigit(text[at])) {
                readDigits();
            } else {
                token = text[at] == ';' ? STOP : WRONG;
                at++;
            }
        }

        /** Each item begins with one letter: longer words have the value of none. */
        private void readLetters() {
            token = WORD;
            value = text[at];
            at++;
            while (at < size && isLetter(text[at])) {
                value = 0;
                at++;
            }
        }

        private void readDigits() {
            boolean zeroAhead = text[at] == '0';
            value = 0;
            while (at < size && isDigit(text[at])) {
                // Held down, as a text has room for more digits than an int.
                value = Math.min(ABOVE_ALL, value * 10 + text[at] - '0');
                at++;
            }
            boolean wrong = value >= ABOVE_ALL || zeroAhead && at - tokenAt > 1;
            token = wrong ? WRONG : NUMBER;
        }

        private static boolean isLetter(int c) {
            return c >= 'a' && c <= 'z';
        }

        private static boolean isDigit(int c) {
            return c >= '0' && c <= '9';
        }
    }

    /** All that is done changes this, and nothing else. */
    private static final class Now {
        final int[] place = new int[MOST_PEOPLE];
        final int[] home = new int[MOST_PEOPLE];
        final int[] patience = new int[MOST_PEOPLE];
        int minute;
        int offended;
        int shut;
        int other = NONE;

        void begin(Told told) {
            System.arraycopy(told.home, 0, place, 0, MOST_PEOPLE);
            System.arraycopy(told.home, 0, home, 0, MOST_PEOPLE);
            System.arraycopy(told.patience, 0, patience, 0, MOST_PEOPLE);
            minute = 0;
            offended = 0;
            shut = 0;
            other = NONE;
        }

        void become(Now from) {
            System.arraycopy(from.place, 0, place, 0, MOST_PEOPLE);
            System.arraycopy(from.home, 0, home, 0, MOST_PEOPLE);
            System.arraycopy(from.patience, 0, patience, 0, MOST_PEOPLE);
            minute = from.minute;
            offended = from.offended;
            shut = from.shut;
            other = from.other;
        }
    }

    /** NOW, and what it was ahead of the latest things done: what an image keeps. */
    private static final class Life {
        final Now state = new Now();
        private final Now[] before = new Now[MOST_UNDONE];
        int known;

        Life() {
            for (int i = 0; i < MOST_UNDONE; i++) {
                before[i] = new Now();
            }
        }

        void begin(Told told) {
            state.begin(told);
            known = 0;
        }

        void remember() {
            if (known == MOST_UNDONE) {
                loseOldest();
            }
            before[known].become(state);
            known++;
        }

        /** Its row is used again, as nothing new may be made for each thing done. */
        private void loseOldest() {
            Now oldest = before[0];
            for (int i = 1; i < MOST_UNDONE; i++) {
                before[i - 1] = before[i];
            }
            before[MOST_UNDONE - 1] = oldest;
            known--;
        }

        void forgo() {
            if (known > 0) {
                known--;
                state.become(before[known]);
            }
        }

        void become(Life from) {
            state.become(from.state);
            for (int i = 0; i < from.known; i++) {
                before[i].become(from.before[i]);
            }
            known = from.known;
        }
    }

    /** What ways and days bring. A way is the houses gone through, as bits. */
    private static final class Plan {
        /** Six people of nine errands pass far fewer. */
        private static final int BEYOND_ALL = 1000000;

        private final Told told;
        private final Now state;
        private final int[] cost = new int[MOST_HOUSES];
        private final int[] left = new int[MOST_HOUSES];
        private final int[] given = new int[MOST_PEOPLE];
        final int[] best = new int[MOST_PEOPLE];
        int fewest;

        Plan(Told told, Now state) {
            this.told = told;
            this.state = state;
        }

        private static int wayByFirst(int home) {
            return (1 << home) - 1;
        }

        private static int wayByOther(int home, int other) {
            return other < home
                ? (1 << home) - (1 << other)
                : (1 << other + 1) - (1 << home + 1);
        }

        private int theWay(int home, int other) {
            int first = wayByFirst(home);
            if (other == NONE) {
                return first;
            }
            int second = wayByOther(home, other);
            return minutesOf(second) < minutesOf(first) ? second : first;
        }

        private int minutesOf(int way) {
            int sum = 0;
            for (int h = 0; h < told.houses; h++) {
                if ((way >> h & 1) == 1) {
                    sum += told.hall[h];
                }
            }
            return sum;
        }

        int wayTo(int h) {
            return theWay(h, state.other);
        }

        int minutesTo(int h) {
            return minutesOf(wayTo(h));
        }

        int effort(int p) {
            return told.errands[p] * minutesTo(state.home[p]);
        }

        private int dwellersOn(int way) {
            int n = 0;
            for (int p = 0; p < told.people; p++) {
                n += way >> state.home[p] & 1;
            }
            return n;
        }

        int passings(int other) {
            int sum = 0;
            for (int p = 0; p < told.people; p++) {
                sum += 2 * told.errands[p] * dwellersOn(theWay(state.home[p], other));
            }
            return sum;
        }

        int passedInADay(int p) {
            int sum = 0;
            for (int q = 0; q < told.people; q++) {
                sum += 2 * told.errands[q] * (wayTo(state.home[q]) >> state.home[p] & 1);
            }
            return sum;
        }

        int hurt() {
            int bits = 0;
            for (int p = 0; p < told.people; p++) {
                if (passedInADay(p) > state.patience[p]) {
                    bits |= 1 << p;
                }
            }
            return bits;
        }

        /** Nobody's own way has his home, so he is not among those that are counted. */
        int goersThrough(int h) {
            int n = 0;
            for (int p = 0; p < told.people; p++) {
                n += wayTo(state.home[p]) >> h & 1;
            }
            return n;
        }

        /** A way that is not empty has the house of its door, so that needs no look of its own. */
        private boolean eachWayMeets(int home, int houses) {
            if ((wayByFirst(home) & houses) == 0) {
                return false;
            }
            return state.other == NONE || (wayByOther(home, state.other) & houses) != 0;
        }

        int stopped(int shut) {
            int bits = 0;
            for (int p = 0; p < told.people; p++) {
                if (eachWayMeets(state.home[p], shut)) {
                    bits |= 1 << p;
                }
            }
            return bits;
        }

        int blocked(int h) {
            int bits = 0;
            for (int p = 0; p < told.people; p++) {
                if (state.home[p] == h || eachWayMeets(state.home[p], 1 << h)) {
                    bits |= 1 << p;
                }
            }
            return bits;
        }

        int toOpen() {
            int least = state.shut;
            for (int open = 0; open < state.shut; open++) {
                boolean allShut = (open & ~state.shut) == 0;
                // As the lower ones come first, only fewer ones are better.
                if (allShut && isFewer(open, least) && stopped(state.shut & ~open) == 0) {
                    least = open;
                }
            }
            return least;
        }

        private static boolean isFewer(int some, int than) {
            return Integer.bitCount(some) < Integer.bitCount(than);
        }

        int bestDoor() {
            int which = NONE;
            int least = passings(NONE);
            for (int h = 1; h < told.houses; h++) {
                int n = passings(h);
                if (n < least) {
                    least = n;
                    which = h;
                }
            }
            return which;
        }

        /**
         * However the same homes are given out, as many live in each house: what an errand costs
         * hangs on the home alone.
         */
        void giveHomes() {
            for (int h = 0; h < told.houses; h++) {
                cost[h] = 2 * dwellersOn(wayTo(h));
                left[h] = 0;
            }
            for (int p = 0; p < told.people; p++) {
                left[state.home[p]]++;
            }
            fewest = BEYOND_ALL;
            giveFrom(0, 0);
        }

        /** Homes are tried from the lowest on, so the first of several is found first. */
        private void giveFrom(int p, int sum) {
            if (sum >= fewest) {
                return;
            }
            if (p >= told.people) {
                fewest = sum;
                System.arraycopy(given, 0, best, 0, MOST_PEOPLE);
                return;
            }
            for (int h = 0; h < told.houses; h++) {
                if (left[h] > 0) {
                    left[h]--;
                    given[p] = h;
                    giveFrom(p + 1, sum + told.errands[p] * cost[h]);
                    left[h]++;
                }
            }
        }

        private static int towardsDoor(int home, int way) {
            return way >> home == 0 ? -1 : 1;
        }

        /** Where who goes out is so many minutes behind his start (ahead of it, below 0). */
        int placeOut(int home, int way, int minutes) {
            if (minutes < 0) {
                return home;
            }
            int step = towardsDoor(home, way);
            int rest = minutes;
            for (int i = 1; i <= Integer.bitCount(way); i++) {
                int h = home + i * step;
                if (rest < told.hall[h]) {
                    return h;
                }
                rest -= told.hall[h];
            }
            return STREET;
        }

        /** Where who comes in is so many minutes behind his start (ahead of it, below 0). */
        int placeIn(int home, int way, int minutes) {
            if (minutes < 0) {
                return STREET;
            }
            int step = towardsDoor(home, way);
            int rest = minutes;
            for (int i = Integer.bitCount(way); i >= 1; i--) {
                int h = home + i * step;
                if (rest < told.hall[h]) {
                    return h;
                }
                rest -= told.hall[h];
            }
            return home;
        }

        int meeting(int p, int a, int q, int b) {
            int out = state.home[p];
            int outWay = wayTo(out);
            int in = state.home[q];
            int inWay = wayTo(in);
            // Who goes out is in no house any more behind his start and all minutes of his way.
            int last = a + minutesOf(outWay);
            for (int m = 0; m <= last; m++) {
                int place = placeOut(out, outWay, m - a);
                if (place != STREET && place == placeIn(in, inWay, m - b)) {
                    return place;
                }
            }
            return NONE;
        }
    }

    /** The kind over all kinds; each body puts its own number to what was asked. */
    private static class Hall {
        final Told told;
        final Now state;
        long asked;

        Hall(Told told, Now state) {
            this.told = told;
            this.state = state;
        }

        int worth(int h) {
            asked += 1;
            return told.hall[h];
        }
    }

    private static class Kitchen extends Hall {
        Kitchen(Told told, Now state) {
            super(told, state);
        }

        int worth(int h) {
            asked += 10;
            int n = super.worth(h);
            for (int p = 0; p < told.people; p++) {
                if (state.home[p] == h) {
                    n++;
                }
            }
            return n;
        }
    }

    private static class Bath extends Hall {
        Bath(Told told, Now state) {
            super(told, state);
        }

        int worth(int h) {
            asked += 100;
            return super.worth(h) - h;
        }
    }

    private static final class Piano extends Kitchen {
        Piano(Told told, Now state) {
            super(told, state);
        }

        int worth(int h) {
            asked += 1000;
            return super.worth(h) * 2;
        }
    }

    private static final class Curtain extends Bath {
        Curtain(Told told, Now state) {
            super(told, state);
        }

        int worth(int h) {
            asked += 10000;
            return super.worth(h) + 9 * (state.shut >> h & 1);
        }
    }

    private static final class Attic extends Hall {
        Attic(Told told, Now state) {
            super(told, state);
        }

        int worth(int h) {
            asked += 100000;
            return super.worth(h) + state.offended;
        }
    }
}
