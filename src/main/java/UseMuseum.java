/** A museum of what's in use: the promises of ../shared/DOC.md, in the Java that ../shared/LANGUAGE.md leaves. */
public final class UseMuseum {
    public static final int UNKNOWN = -1, OUTSIDE = -2, STATE = -3, FULL = -4, NONE = -9;
    public static final long LOST = Long.MIN_VALUE;

    private static final int NULL = 1, CAST = 2, INDEX = 3, SIZE = 4;
    private static final int HOURS = 6, MOST_THINGS = 5, HOUR_SETS = 64;
    private static final int SHEETS = 4, LANES = 3, MOST_CELLS = 60;
    private static final int HEIRLOOM = 1, LIVING = 2, KINDS = 3;
    private static final int LAWS = 4, WARM = 1, LAST = 2, EXTRA_OF_LAST = 5;
    private static final int MOST_PENALTY = 9, MOST_MISSED = 30, MOST_TAKINGS = 999, MOST_READINGS = 8;
    private static final int NOTHING = MOST_THINGS;
    private static final int SHOWN_MORE = 1000, TEXT_FAULT = -100, FIRST_WRONG = -100;

    private final Sheet[] sheets;
    private final House house;
    private final Readings readings;
    private final Search search;
    private final int[] told;
    private int latestFault;
    private int leftNumbers;

    public UseMuseum() {
        sheets = new Sheet[SHEETS];
        for (int k = 0; k < SHEETS; k++) {
            sheets[k] = new Sheet();
        }
        house = new House();
        readings = new Readings();
        search = new Search();
        told = new int[HOURS];
    }

    // ---- 1 the museum

    public int museum(int sheet, int lane, int i, int n) {
        latestFault = 0;
        if (!isSheet(sheet)) {
            return UNKNOWN;
        }
        if (!isLane(lane)) {
            return OUTSIDE;
        }
        Sheet text = sheets[sheet];
        int faulty = text.faultOfCells(lane, i, n);
        if (faulty != 0) {
            return answerFault(faulty);
        }
        int place = Text.firstFault(text.cells, i, n);
        if (place != NONE) {
            return TEXT_FAULT - place;
        }
        Text.fill(house, text.cells, i, n);
        readings.count = 0;
        return house.count;
    }

    public int ofThing(int t, int what) {
        if (!house.has(t)) {
            return UNKNOWN;
        }
        Thing thing = house.things[t];
        switch (what) {
            case 0: return thing.kind;
            case 1: return thing.sort;
            case 2: return thing.worth;
            case 3: return thing.stay;
            case 4: return thing.uses;
            case 5: return thing.value();
            default: return OUTSIDE;
        }
    }

    public int penalty(int v) {
        if (v < 0 || v > MOST_PENALTY) {
            return OUTSIDE;
        }
        if (!house.stands()) {
            return STATE;
        }
        int before = house.penalty;
        house.penalty = v;
        return before;
    }

    public int law(int v) {
        if (v < 0 || v >= LAWS) {
            return OUTSIDE;
        }
        if (!house.stands()) {
            return STATE;
        }
        int before = house.law;
        house.law = v;
        return before;
    }

    public int use(int t, int set) {
        if (!house.has(t)) {
            return UNKNOWN;
        }
        if (set < 0 || set >= HOUR_SETS) {
            return OUTSIDE;
        }
        int before = house.things[t].uses;
        house.things[t].uses = set;
        return before;
    }

    // ---- 2 rounds

    public int round(int sheet, int lane, int i, int what) {
        boolean ofHour = what >= 10 && what < 10 + HOURS;
        int refusal = hearRound(sheet, lane, i, ofHour || (what >= 0 && what <= 3));
        if (refusal != 0) {
            return refusal;
        }
        int wrong = house.firstWrong(told);
        if (what == 1) {
            return wrong;
        }
        if (wrong != NONE) {
            return FIRST_WRONG - wrong;
        }
        if (ofHour) {
            return house.casesBy(told, what - 10 + 1, what - 10);
        }
        int missed = house.missedBy(told);
        if (what == 2) {
            return missed;
        }
        int takings = house.takingsBy(told, house.law);
        return what == 0 ? takings : takings - house.penalty * missed + SHOWN_MORE;
    }

    // ---- 3 the best

    public int best(int h) {
        if (h < -1 || h >= HOURS) {
            return OUTSIDE;
        }
        if (!house.stands()) {
            return STATE;
        }
        searchBest(NONE);
        return h == -1 ? search.bestLeft + SHOWN_MORE : search.best[h];
    }

    public int mild(int v) {
        if (v < 0 || v > MOST_MISSED) {
            return OUTSIDE;
        }
        if (!house.stands()) {
            return STATE;
        }
        search.clear();
        search.mostMissed = v;
        walk(search, house, 0, 0, 0);
        return search.mostTakings;
    }

    public int worth(int t) {
        if (!house.has(t)) {
            return UNKNOWN;
        }
        searchBest(NONE);
        int left = search.bestLeft;
        searchBest(t);
        return left - search.bestLeft + SHOWN_MORE;
    }

    public int shift(int t) {
        if (!house.has(t)) {
            return UNKNOWN;
        }
        Thing thing = house.things[t];
        int uses = thing.uses;
        int fewest = takesByBest(t);
        int shifted = NONE;
        for (int hour = 0; hour < HOURS; hour++) {
            if (isIn(uses, hour)) {
                thing.uses = uses & ~(1 << hour);
                int takes = takesByBest(t);
                if (takes < fewest) {
                    fewest = takes;
                    shifted = hour;
                }
            }
        }
        thing.uses = uses;
        return shifted;
    }

    // ---- 4 how cases were

    public int reading(int t, int hour, boolean inCase) {
        if (!house.has(t)) {
            return UNKNOWN;
        }
        if (!isHour(hour)) {
            return OUTSIDE;
        }
        return readings.add(t, hour, inCase);
    }

    public int back(int k) {
        if (k < 0 || k > readings.count) {
            return OUTSIDE;
        }
        readings.count -= k;
        return readings.count;
    }

    public int rounds(int h) {
        if (h < -1 || h >= HOURS) {
            return OUTSIDE;
        }
        if (!house.stands()) {
            return STATE;
        }
        searchRead();
        return h == -1 ? search.count : search.first[h];
    }

    public int sure(int h) {
        if (!isHour(h)) {
            return OUTSIDE;
        }
        if (!house.stands()) {
            return STATE;
        }
        searchRead();
        return search.seen[h];
    }

    public int laws(int sheet, int lane, int i, int v) {
        int refusal = hearRound(sheet, lane, i, v >= 0 && v <= MOST_TAKINGS);
        if (refusal != 0) {
            return refusal;
        }
        int wrong = house.firstWrong(told);
        if (wrong != NONE) {
            return FIRST_WRONG - wrong;
        }
        int set = 0;
        for (int law = 0; law < LAWS; law++) {
            if (house.takingsBy(told, law) == v) {
                set |= 1 << law;
            }
        }
        return set;
    }

    public int used(int t, int sheet, int lane, int i, int v) {
        latestFault = 0;
        if (!house.has(t)) {
            return UNKNOWN;
        }
        int refusal = hearRound(sheet, lane, i, v >= 0 && v <= MOST_TAKINGS);
        if (refusal != 0) {
            return refusal;
        }
        int wrong = house.firstWrong(told);
        if (wrong != NONE) {
            return FIRST_WRONG - wrong;
        }
        int inCase = house.hoursInCase(told, t);
        int missedOfOthers = house.missedBy(told) - Integer.bitCount(house.things[t].uses & inCase);
        int sets = 0;
        for (int set = 0; set < HOUR_SETS; set++) {
            if (missedOfOthers + Integer.bitCount(set & inCase) == v) {
                sets++;
            }
        }
        return sets;
    }

    public long odds(int sheet, int lane, int i, int v, int which) {
        boolean inside = v >= 0 && v <= MOST_MISSED && (which == 0 || which == 1);
        if (hearRound(sheet, lane, i, inside) != 0 || house.firstWrong(told) != NONE) {
            return LOST;
        }
        int missed = house.missedBy(told);
        long upper = waysForAtMost(missed, v);
        long lower = 1L << missed;
        for (int halving = 0; halving < missed && upper % 2 == 0; halving++) {
            upper /= 2;
            lower /= 2;
        }
        return which == 0 ? upper : lower;
    }

    // ---- 5 sheets, parts

    public int sheet(int k, int lane, int n) {
        latestFault = 0;
        if (!isSheet(k)) {
            return UNKNOWN;
        }
        if (!isLane(lane) || n > MOST_CELLS) {
            return OUTSIDE;
        }
        if (n < 0) {
            return answerFault(SIZE);
        }
        sheets[k].begin(lane, n);
        return 1;
    }

    public int lose(int k) {
        if (!isSheet(k)) {
            return UNKNOWN;
        }
        int had = sheets[k].there ? 1 : 0;
        sheets[k].there = false;
        return had;
    }

    public int put(int k, int i, int v) {
        latestFault = 0;
        if (!isSheet(k)) {
            return UNKNOWN;
        }
        Sheet row = sheets[k];
        int faulty = row.faultOfCells(row.lane, i, 1);
        if (faulty != 0) {
            return answerFault(faulty);
        }
        row.cells[i] = row.cut(v);
        return 1;
    }

    public long cell(int k, int i, int lane) {
        latestFault = 0;
        if (!isSheet(k) || !isLane(lane)) {
            return LOST;
        }
        latestFault = sheets[k].faultOfCells(lane, i, 1);
        return latestFault == 0 ? sheets[k].cells[i] : LOST;
    }

    public int copy(int k, int i, int other, int j, int n) {
        latestFault = 0;
        if (!isSheet(k) || !isSheet(other)) {
            return UNKNOWN;
        }
        Sheet from = sheets[k];
        Sheet to = sheets[other];
        if (!from.there || !to.there) {
            return answerFault(NULL);
        }
        if (from.lane != to.lane) {
            return answerFault(CAST);
        }
        if (!from.holds(i, n) || !to.holds(j, n)) {
            return answerFault(INDEX);
        }
        System.arraycopy(from.cells, i, to.cells, j, n);
        return n;
    }

    public int tell(int t) {
        if (!house.has(t)) {
            return UNKNOWN;
        }
        Thing thing = house.things[t];
        if (thing.kind == LIVING) {
            return livingTells(thing);
        }
        return thing.kind == HEIRLOOM ? heirloomTells(thing) : thingTells(thing);
    }

    public int label(int t) {
        if (!house.has(t)) {
            return UNKNOWN;
        }
        if (house.things[t].kind == LIVING) {
            leave(5);
            return 70;
        }
        leave(4);
        return t;
    }

    public int as(int t, int kind) {
        latestFault = 0;
        if (!house.has(t)) {
            return UNKNOWN;
        }
        if (kind < 0 || kind >= KINDS) {
            return OUTSIDE;
        }
        // Each kind is one of all kinds numbered below it, too.
        return house.things[t].kind >= kind ? 1 : answerFault(CAST);
    }

    public int trace() {
        return leftNumbers;
    }

    public int fault() {
        return latestFault;
    }

    public int many(int what) {
        switch (what) {
            case 0: return house.count;
            case 1: return house.penalty;
            case 2: return house.law;
            case 3: return readings.count;
            default: return OUTSIDE;
        }
    }

    // ---- what the calls share

    private static boolean isSheet(int k) {
        return k >= 0 && k < SHEETS;
    }

    private static boolean isLane(int lane) {
        return lane >= 0 && lane < LANES;
    }

    private static boolean isHour(int hour) {
        return hour >= 0 && hour < HOURS;
    }

    private static boolean isIn(int set, int number) {
        return (set >> number & 1) != 0;
    }

    private int answerFault(int number) {
        latestFault = number;
        return -10 - number;
    }

    /** The six cells come to be told: 0, or what the call answers where they can't. */
    private int hearRound(int sheet, int lane, int i, boolean othersInside) {
        latestFault = 0;
        if (!isSheet(sheet)) {
            return UNKNOWN;
        }
        if (!isLane(lane) || !othersInside) {
            return OUTSIDE;
        }
        if (!house.stands()) {
            return STATE;
        }
        Sheet row = sheets[sheet];
        int faulty = row.faultOfCells(lane, i, HOURS);
        if (faulty != 0) {
            return answerFault(faulty);
        }
        for (int h = 0; h < HOURS; h++) {
            told[h] = row.cells[i + h];
            if (told[h] != NONE && !house.has(told[h])) {
                return UNKNOWN;
            }
        }
        return 0;
    }

    private void searchBest(int without) {
        search.clear();
        search.without = without;
        walk(search, house, 0, 0, 0);
    }

    private int takesByBest(int t) {
        searchBest(NONE);
        int takes = 0;
        for (int h = 0; h < HOURS; h++) {
            if (search.best[h] == t) {
                takes++;
            }
        }
        return takes;
    }

    private void searchRead() {
        search.clear();
        readings.bind(search);
        walk(search, house, 0, 0, 0);
    }

    /** Goes through all rounds that can be as rows in their order, so that of equals the first is kept. */
    private static void walk(Search s, House house, int hour, int takings, int missed) {
        if (hour >= HOURS) {
            s.arrive(takings, missed, house.penalty);
            return;
        }
        int cases = house.casesBy(s.row, hour, hour);
        s.row[hour] = NONE;
        if (s.fits(hour, cases)) {
            int before = s.count;
            walk(s, house, hour + 1, takings, missed);
            s.note(hour, NOTHING, before);
        }
        for (int t = 0; t < house.count; t++) {
            if (t != s.without && !isIn(cases, t) && s.fits(hour, cases | 1 << t)) {
                int before = s.count;
                s.row[hour] = t;
                walk(s, house, hour + 1, takings + house.gain(t, hour, cases, house.law),
                        missed + house.missedByTake(t, hour));
                s.note(hour, t, before);
            }
        }
    }

    /** How many of all sets of so many uses have at most v. */
    private static long waysForAtMost(int uses, int v) {
        long ways = 0;
        long choices = 1;
        for (int k = 0; k <= v && k <= uses; k++) {
            ways += choices;
            choices = choices * (uses - k) / (k + 1);
        }
        return ways;
    }

    private void leave(int body) {
        leftNumbers = 31 * leftNumbers + body;
    }

    private int thingTells(Thing thing) {
        leave(1);
        return thing.worth;
    }

    private int heirloomTells(Thing thing) {
        leave(2);
        return thingTells(thing) + 100;
    }

    private int livingTells(Thing thing) {
        leave(3);
        int asHeirloom = heirloomTells(thing);
        return asHeirloom + thingTells(thing);
    }

    /** A row of a lane, or nothing; its cells are made once, so that a new row costs no room. */
    private static final class Sheet {
        final int[] cells = new int[MOST_CELLS];
        boolean there;
        int lane;
        int length;

        void begin(int newLane, int n) {
            there = true;
            lane = newLane;
            length = n;
            for (int i = 0; i < MOST_CELLS; i++) {
                cells[i] = 0;
            }
        }

        /** Tests no sum of i and n, for that might wrap. */
        boolean holds(int i, int n) {
            return i >= 0 && i <= length && n >= 0 && n <= length - i;
        }

        int faultOfCells(int asLane, int i, int n) {
            if (!there) {
                return NULL;
            }
            if (lane != asLane) {
                return CAST;
            }
            if (n < 0) {
                return SIZE;
            }
            return holds(i, n) ? 0 : INDEX;
        }

        int cut(int v) {
            if (lane == 0) {
                return (byte) v;
            }
            return lane == 1 ? (short) v : v;
        }
    }

    private static final class Thing {
        int kind;
        int sort;
        int worth;
        int stay;
        int uses;

        int value() {
            if (kind == LIVING) {
                return 2 * (worth + 1);
            }
            return kind == HEIRLOOM ? worth + 1 : worth;
        }

        /** The hours, as a set, in which it is in its case by a take. */
        int span(int hour) {
            return (((1 << stay) - 1) << hour) & (HOUR_SETS - 1);
        }
    }

    /** The museum with its things: none, while there is no museum. */
    private static final class House {
        final Thing[] things = new Thing[MOST_THINGS];
        int count;
        int penalty;
        int law;

        House() {
            for (int t = 0; t < MOST_THINGS; t++) {
                things[t] = new Thing();
            }
        }

        boolean stands() {
            return count > 0;
        }

        boolean has(int t) {
            return t >= 0 && t < count;
        }

        /** The things, as a set, that are in their cases in an hour by the takes of a row's first hours. */
        int casesBy(int[] row, int takes, int hour) {
            int set = 0;
            for (int h = 0; h < takes; h++) {
                int t = row[h];
                if (has(t) && h + things[t].stay > hour) {
                    set |= 1 << t;
                }
            }
            return set;
        }

        int firstWrong(int[] row) {
            for (int h = 0; h < HOURS; h++) {
                if (has(row[h]) && isIn(casesBy(row, h, h), row[h])) {
                    return h;
                }
            }
            return NONE;
        }

        int takingsBy(int[] row, int byLaw) {
            int takings = 0;
            for (int h = 0; h < HOURS; h++) {
                if (has(row[h])) {
                    takings += gain(row[h], h, casesBy(row, h, h), byLaw);
                }
            }
            return takings;
        }

        int missedBy(int[] row) {
            int missed = 0;
            for (int h = 0; h < HOURS; h++) {
                if (has(row[h])) {
                    missed += missedByTake(row[h], h);
                }
            }
            return missed;
        }

        int hoursInCase(int[] row, int t) {
            int set = 0;
            for (int h = 0; h < HOURS; h++) {
                if (row[h] == t && has(t)) {
                    set |= things[t].span(h);
                }
            }
            return set;
        }

        int gain(int t, int hour, int cases, int byLaw) {
            Thing thing = things[t];
            int gain = thing.value();
            if ((byLaw & WARM) != 0 && isIn(thing.uses, hour)) {
                gain += thing.value();
            }
            if ((byLaw & LAST) != 0 && isLast(t, cases)) {
                gain += EXTRA_OF_LAST;
            }
            return gain;
        }

        boolean isLast(int t, int cases) {
            for (int other = 0; other < count; other++) {
                if (other != t && things[other].sort == things[t].sort && !isIn(cases, other)) {
                    return false;
                }
            }
            return true;
        }

        /** A thing's takes never overlap in a round that can be, so what they miss adds up. */
        int missedByTake(int t, int hour) {
            return Integer.bitCount(things[t].uses & things[t].span(hour));
        }
    }

    /** The grammar of a text: u, a digit, then things of seven codes each. */
    private static final class Text {
        static final int AHEAD = 2, OF_THING = 7, MOST_CODES = AHEAD + MOST_THINGS * OF_THING;

        static int firstFault(int[] cells, int from, int n) {
            int before = 0;
            for (int place = 0; place < n; place++) {
                int code = cells[from + place];
                if (!goesOn(place, before, code)) {
                    return place;
                }
                before = code;
            }
            return n > AHEAD && (n - AHEAD) % OF_THING == 0 ? NONE : n;
        }

        static boolean goesOn(int place, int before, int code) {
            if (place == 0) {
                return code == 'u';
            }
            if (place == 1) {
                return isDigit(code, 0, 9);
            }
            if (place >= MOST_CODES) {
                return false;
            }
            switch ((place - AHEAD) % OF_THING) {
                case 0: return code == ';';
                case 1: return code == 't' || code == 'h' || code == 'l';
                case 2: return isDigit(code, 0, 3);
                case 3: return isDigit(code, 1, 9);
                case 4: return isDigit(code, 1, 6);
                case 5: return isDigit(code, 0, 6);
                default: return isDigit(code, 0, before == '6' ? 3 : 9);
            }
        }

        static boolean isDigit(int code, int least, int most) {
            return code >= '0' + least && code <= '0' + most;
        }

        /** Only of a text without a fault. */
        static void fill(House house, int[] cells, int from, int n) {
            house.count = (n - AHEAD) / OF_THING;
            house.penalty = cells[from + 1] - '0';
            house.law = LAWS - 1;
            for (int t = 0; t < house.count; t++) {
                int at = from + AHEAD + t * OF_THING;
                Thing thing = house.things[t];
                thing.kind = kindOf(cells[at + 1]);
                thing.sort = cells[at + 2] - '0';
                thing.worth = cells[at + 3] - '0';
                thing.stay = cells[at + 4] - '0';
                thing.uses = 10 * (cells[at + 5] - '0') + cells[at + 6] - '0';
            }
        }

        static int kindOf(int code) {
            if (code == 'l') {
                return LIVING;
            }
            return code == 'h' ? HEIRLOOM : 0;
        }
    }

    private static final class Readings {
        final int[] things = new int[MOST_READINGS];
        final int[] hours = new int[MOST_READINGS];
        final boolean[] inCase = new boolean[MOST_READINGS];
        int count;

        int add(int t, int hour, boolean in) {
            if (count >= MOST_READINGS) {
                return FULL;
            }
            things[count] = t;
            hours[count] = hour;
            inCase[count] = in;
            return count++;
        }

        void bind(Search search) {
            for (int r = 0; r < count; r++) {
                int[] sets = inCase[r] ? search.mustBeIn : search.mustBeOut;
                sets[hours[r]] |= 1 << things[r];
            }
        }
    }

    /** What one walk through all rounds looks for, and what it has found; made once and used again. */
    private static final class Search {
        final int[] row = new int[HOURS];
        final int[] first = new int[HOURS];
        final int[] best = new int[HOURS];
        final int[] seen = new int[HOURS];
        final int[] mustBeIn = new int[HOURS];
        final int[] mustBeOut = new int[HOURS];
        int without;
        int mostMissed;
        int count;
        int bestLeft;
        int mostTakings;

        void clear() {
            for (int h = 0; h < HOURS; h++) {
                row[h] = NONE;
                first[h] = NONE;
                best[h] = NONE;
                seen[h] = 0;
                mustBeIn[h] = 0;
                mustBeOut[h] = 0;
            }
            without = NONE;
            mostMissed = MOST_MISSED;
            count = 0;
            bestLeft = 0;
            mostTakings = 0;
        }

        boolean fits(int hour, int cases) {
            return (mustBeIn[hour] & ~cases) == 0 && (mustBeOut[hour] & cases) == 0;
        }

        void arrive(int takings, int missed, int penalty) {
            int left = takings - penalty * missed;
            if (count == 0) {
                System.arraycopy(row, 0, first, 0, HOURS);
            }
            if (count == 0 || left > bestLeft) {
                bestLeft = left;
                System.arraycopy(row, 0, best, 0, HOURS);
            }
            if (missed <= mostMissed && takings > mostTakings) {
                mostTakings = takings;
            }
            count++;
        }

        /** What is taken in an hour is seen only where a round was found behind it. */
        void note(int hour, int taken, int countBefore) {
            if (count > countBefore) {
                seen[hour] |= 1 << taken;
            }
        }
    }
}
