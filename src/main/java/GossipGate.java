import java.util.Arrays;

/**
 * A town whose gates take a duty on news: what passages pay, how a story comes in for least,
 * and what can be told from what was paid. The words in capitals are those of the document.
 */
public final class GossipGate {
    public static final int UNKNOWN = -1, OUTSIDE = -2, STATE = -3, FULL = -4, NONE = -9;
    public static final long LOST = Long.MIN_VALUE;

    private static final int NO_FAULT = 0, NULL = 1, CAST = 2, INDEX = 3, SIZE = 4;

    private static final int SHEETS = 4;
    private static final int LAST_LANE = 2;
    private static final int LONGEST_ROW = 60;
    private static final int MOST_GATES = 5;
    private static final int MOST_STORIES = 4;
    private static final int MOST_PASSAGES = 12;
    private static final int MOST_READINGS = 8;
    private static final int LAST_KIND = 2;
    private static final int LAST_DAY = 7;
    private static final int LAST_PERSON = 5;
    private static final int LARGEST = 9;
    private static final int HIGHEST_RATE = 9;
    private static final int HIGHEST_HARMLESS = 9;
    private static final int MOST_PENCE = 9999;
    private static final int THIRDS = 3;
    private static final int ALL_THIRDS = 7;
    private static final int NO_GATE = -1;

    private final Row[] rows = new Row[SHEETS];
    private final Town theTown = new Town();
    private final Route route = new Route();
    private final Readings readings = new Readings();
    private final Trace steps = new Trace();
    private int latestFault = NO_FAULT;

    public GossipGate() {
        for (int k = 0; k < SHEETS; k++) {
            rows[k] = new Row();
        }
    }

    // ---- 1 the town

    public int town(int sheet, int lane, int i, int n) {
        latestFault = NO_FAULT;
        Row row = rowAt(sheet);
        if (row == null) {
            return UNKNOWN;
        }
        if (!isWithin(lane, 0, LAST_LANE)) {
            return OUTSIDE;
        }
        int found = row.faultTakenAs(lane);
        if (found == NO_FAULT && n < 0) {
            found = SIZE;
        }
        if (found == NO_FAULT && !row.hasCells(i, n)) {
            found = INDEX;
        }
        if (found != NO_FAULT) {
            return failBy(found);
        }
        Text text = new Text(row, i, n);
        int firstFault = text.firstFault();
        if (firstFault != NONE) {
            return -100 - firstFault;
        }
        theTown.settle(text);
        readings.count = 0;
        return theTown.stories.length;
    }

    public int ofGate(int g, int what) {
        Gate gate = theTown.gateAt(g);
        if (gate == null) {
            return UNKNOWN;
        }
        switch (what) {
            case 0: return gate.kind();
            case 1: return gate.rate;
            case 2: return gate.deaf;
            default: return OUTSIDE;
        }
    }

    public int ofStory(int s, int what) {
        Story story = theTown.storyAt(s);
        if (story == null) {
            return UNKNOWN;
        }
        switch (what) {
            case 0: return story.large;
            case 1: return story.person;
            case 2: return story.born;
            case 3: case 4: case 5: return story.sizeOfThird(what - 3);
            default: return OUTSIDE;
        }
    }

    public int harmless(int v) {
        if (!isWithin(v, 0, HIGHEST_HARMLESS)) {
            return OUTSIDE;
        }
        if (!theTown.stands()) {
            return STATE;
        }
        int was = theTown.harmlessSize;
        theTown.harmlessSize = v;
        return was;
    }

    public int rate(int g, int v) {
        Gate gate = theTown.gateAt(g);
        if (gate == null) {
            return UNKNOWN;
        }
        if (!isWithin(v, 1, HIGHEST_RATE)) {
            return OUTSIDE;
        }
        int was = gate.rate;
        gate.rate = v;
        return was;
    }

    public int fresh(int s, int day) {
        Story story = theTown.storyAt(s);
        if (story == null) {
            return UNKNOWN;
        }
        if (!isDay(day)) {
            return OUTSIDE;
        }
        return story.isBornBy(day) ? story.freshness(day) : NONE;
    }

    // ---- 2 duties

    public int duty(int g, int s, int day, int thirds) {
        Gate gate = theTown.gateAt(g);
        Story story = theTown.storyAt(s);
        if (gate == null || story == null) {
            return UNKNOWN;
        }
        if (!isDay(day) || !isWithin(thirds, 0, ALL_THIRDS)) {
            return OUTSIDE;
        }
        return story.isBornBy(day) ? theTown.dutyOf(gate, story, day, thirds) : NONE;
    }

    public int passages(int sheet, int lane, int i, int n, int what) {
        latestFault = NO_FAULT;
        if (rowAt(sheet) == null) {
            return UNKNOWN;
        }
        if (!isAskedOfPassages(what)) {
            return OUTSIDE;
        }
        int refusal = readRoute(sheet, lane, i, n);
        if (refusal < 0) {
            return refusal;
        }
        if (what == 1) {
            return route.firstWrong;
        }
        if (route.firstWrong != NONE) {
            return -100 - route.firstWrong;
        }
        if (what >= 10 && what < 20) {
            return theTown.storyAt(what - 10) == null ? NONE : route.wholeDay(what - 10);
        }
        theTown.collect(route);
        if (what == 0) {
            return theTown.takenInAll();
        }
        return theTown.gateAt(what - 20) == null ? NONE : theTown.takenAt(what - 20);
    }

    // ---- 3 the least

    public int least(int s, int day, int k) {
        Story story = theTown.storyAt(s);
        if (story == null) {
            return UNKNOWN;
        }
        if (!isDay(day) || !isWithin(k, -1, THIRDS - 1)) {
            return OUTSIDE;
        }
        if (!story.isBornBy(day)) {
            return NONE;
        }
        int key = theTown.leastKey(story, day, NO_GATE);
        return k < 0 ? Town.penceOf(key) : Town.spotOf(key, k);
    }

    public int free(int s) {
        Story story = theTown.storyAt(s);
        return story == null ? UNKNOWN : theTown.freeDay(story);
    }

    public int worth(int g, int s, int day) {
        Gate gate = theTown.gateAt(g);
        Story story = theTown.storyAt(s);
        if (gate == null || story == null) {
            return UNKNOWN;
        }
        if (!isDay(day)) {
            return OUTSIDE;
        }
        if (theTown.gates.length < 2 || !story.isBornBy(day)) {
            return NONE;
        }
        int shut = Town.penceOf(theTown.leastKey(story, day, g));
        return shut - Town.penceOf(theTown.leastKey(story, day, NO_GATE));
    }

    // ---- 4 what was paid

    public int reading(int g, int v) {
        if (theTown.gateAt(g) == null) {
            return UNKNOWN;
        }
        if (!isWithin(v, 0, MOST_PENCE)) {
            return OUTSIDE;
        }
        return readings.note(g, v);
    }

    public int back(int k) {
        if (!isWithin(k, 0, readings.count)) {
            return OUTSIDE;
        }
        readings.count -= k;
        return readings.count;
    }

    public int sizes(int s, int sheet, int lane, int i, int n) {
        latestFault = NO_FAULT;
        Story story = theTown.storyAt(s);
        if (story == null) {
            return UNKNOWN;
        }
        int refusal = readRoute(sheet, lane, i, n);
        if (refusal < 0) {
            return refusal;
        }
        int was = story.large;
        int set = 0;
        for (int v = 1; v <= LARGEST; v++) {
            story.large = v;
            set |= bitIfSo(v);
        }
        story.large = was;
        return set;
    }

    public int persons(int s, int sheet, int lane, int i, int n) {
        latestFault = NO_FAULT;
        Story story = theTown.storyAt(s);
        if (story == null) {
            return UNKNOWN;
        }
        int refusal = readRoute(sheet, lane, i, n);
        if (refusal < 0) {
            return refusal;
        }
        int was = story.person;
        int set = 0;
        for (int v = 0; v <= LAST_PERSON; v++) {
            story.person = v;
            set |= bitIfSo(v);
        }
        story.person = was;
        return set;
    }

    public int kinds(int g, int sheet, int lane, int i, int n) {
        latestFault = NO_FAULT;
        Gate gate = theTown.gateAt(g);
        if (gate == null) {
            return UNKNOWN;
        }
        int refusal = readRoute(sheet, lane, i, n);
        if (refusal < 0) {
            return refusal;
        }
        int set = 0;
        for (int v = 0; v <= LAST_KIND; v++) {
            theTown.setGate(Town.newGate(v, g, gate.rate, gate.deaf));
            set |= bitIfSo(v);
        }
        theTown.setGate(gate);
        return set;
    }

    public int limits(int sheet, int lane, int i, int n) {
        latestFault = NO_FAULT;
        int refusal = readRoute(sheet, lane, i, n);
        if (refusal < 0) {
            return refusal;
        }
        int was = theTown.harmlessSize;
        int set = 0;
        for (int v = 0; v <= HIGHEST_HARMLESS; v++) {
            theTown.harmlessSize = v;
            set |= bitIfSo(v);
        }
        theTown.harmlessSize = was;
        return set;
    }

    public long odds(int s, int day, int v, int which) {
        Story story = theTown.storyAt(s);
        if (story == null || !isDay(day) || !isWithin(v, 0, MOST_PENCE) || !isWithin(which, 0, 1)) {
            return LOST;
        }
        if (!story.isBornBy(day)) {
            return LOST;
        }
        int gates = theTown.gates.length;
        int lower = gates * gates * gates;
        int upper = theTown.waysWithin(story, day, v);
        int common = commonDivisor(lower, upper);
        return (which == 0 ? upper : lower) / common;
    }

    // ---- 5 sheets, parts

    public int sheet(int k, int lane, int n) {
        latestFault = NO_FAULT;
        Row row = rowAt(k);
        if (row == null) {
            return UNKNOWN;
        }
        if (!isWithin(lane, 0, LAST_LANE) || n > LONGEST_ROW) {
            return OUTSIDE;
        }
        if (n < 0) {
            return failBy(SIZE);
        }
        row.begin(lane, n);
        return 1;
    }

    public int lose(int k) {
        Row row = rowAt(k);
        if (row == null) {
            return UNKNOWN;
        }
        int had = row.isThere() ? 1 : 0;
        row.drop();
        return had;
    }

    public int put(int k, int i, int v) {
        latestFault = NO_FAULT;
        Row row = rowAt(k);
        if (row == null) {
            return UNKNOWN;
        }
        if (!row.isThere()) {
            return failBy(NULL);
        }
        if (!row.hasCell(i)) {
            return failBy(INDEX);
        }
        row.write(i, v);
        return 1;
    }

    public long cell(int k, int i, int lane) {
        latestFault = NO_FAULT;
        Row row = rowAt(k);
        if (row == null || !isWithin(lane, 0, LAST_LANE)) {
            return LOST;
        }
        int found = row.faultTakenAs(lane);
        if (found == NO_FAULT && !row.hasCell(i)) {
            found = INDEX;
        }
        if (found != NO_FAULT) {
            latestFault = found;
            return LOST;
        }
        return row.read(i);
    }

    public int copy(int k, int i, int other, int j, int n) {
        latestFault = NO_FAULT;
        Row from = rowAt(k);
        Row to = rowAt(other);
        if (from == null || to == null) {
            return UNKNOWN;
        }
        if (!from.isThere() || !to.isThere()) {
            return failBy(NULL);
        }
        if (from.lane != to.lane) {
            return failBy(CAST);
        }
        if (!from.hasCells(i, n) || !to.hasCells(j, n)) {
            return failBy(INDEX);
        }
        System.arraycopy(from.cells, i, to.cells, j, n);
        return n;
    }

    public int tell(int g) {
        Gate gate = theTown.gateAt(g);
        return gate == null ? UNKNOWN : gate.telling(steps);
    }

    public int knock(int g) {
        Gate gate = theTown.gateAt(g);
        return gate == null ? UNKNOWN : gate.knocking(steps);
    }

    public int as(int g, int kind) {
        latestFault = NO_FAULT;
        Gate gate = theTown.gateAt(g);
        if (gate == null) {
            return UNKNOWN;
        }
        if (!isWithin(kind, 0, LAST_KIND)) {
            return OUTSIDE;
        }
        boolean isOne = kind == 0
            || (kind == 1 && gate instanceof Strict)
            || (kind == 2 && gate instanceof Lax);
        return isOne ? 1 : failBy(CAST);
    }

    public int trace() {
        return steps.value;
    }

    public int fault() {
        return latestFault;
    }

    public int many(int what) {
        switch (what) {
            case 0: return theTown.stories.length;
            case 1: return theTown.gates.length;
            case 2: return theTown.harmlessSize;
            case 3: return readings.count;
            default: return OUTSIDE;
        }
    }

    // ---- what the calls share

    private static boolean isWithin(int v, int least, int most) {
        return v >= least && v <= most;
    }

    private static boolean isDay(int day) {
        return isWithin(day, 0, LAST_DAY);
    }

    private static boolean isAskedOfPassages(int what) {
        return isWithin(what, 0, 1)
            || isWithin(what, 10, 10 + MOST_STORIES - 1)
            || isWithin(what, 20, 20 + MOST_GATES - 1);
    }

    private static int commonDivisor(int a, int b) {
        int larger = a;
        int smaller = b;
        for (int step = 0; step < 64 && smaller != 0; step++) {
            int rest = larger % smaller;
            larger = smaller;
            smaller = rest;
        }
        // Without gates there are no ways at all, and 0 must not become a divisor.
        return larger > 0 ? larger : 1;
    }

    private Row rowAt(int k) {
        return isWithin(k, 0, SHEETS - 1) ? rows[k] : null;
    }

    private int failBy(int found) {
        latestFault = found;
        return -10 - found;
    }

    /** Lays the PASSAGES of a SHEET into the route: 0, or why they can't be read. */
    private int readRoute(int k, int lane, int i, int n) {
        Row row = rowAt(k);
        if (row == null) {
            return UNKNOWN;
        }
        if (!isWithin(lane, 0, LAST_LANE) || !isWithin(n, 0, MOST_PASSAGES)) {
            return OUTSIDE;
        }
        int found = row.faultTakenAs(lane);
        if (found == NO_FAULT && !row.hasCells(i, 3 * n)) {
            found = INDEX;
        }
        if (found != NO_FAULT) {
            return failBy(found);
        }
        if (!theTown.stands()) {
            return STATE;
        }
        route.begin();
        for (int p = 0; p < n; p++) {
            int s = row.read(i + 3 * p);
            int g = row.read(i + 3 * p + 1);
            int day = row.read(i + 3 * p + 2);
            Story story = theTown.storyAt(s);
            if (story == null || theTown.gateAt(g) == null) {
                return UNKNOWN;
            }
            if (!isDay(day)) {
                return OUTSIDE;
            }
            route.pass(p, s, g, day, story.isBornBy(day));
        }
        return 0;
    }

    /** The bit of a number that was put in for a while, if the route and all READINGS can be by it. */
    private int bitIfSo(int number) {
        if (route.firstWrong != NONE) {
            return 0;
        }
        theTown.collect(route);
        for (int r = 0; r < readings.count; r++) {
            if (theTown.takenAt(readings.gates[r]) != readings.pence[r]) {
                return 0;
            }
        }
        return 1 << number;
    }

    // ---- the parts

    /** TRACE: which bodies have begun, in their order. */
    private static final class Trace {
        int value = 0;

        void leave(int body) {
            value = 31 * value + body;
        }
    }

    /** What a SHEET has. All LANES share one row of ints, so that no call makes a new one. */
    private static final class Row {
        private static final int NOTHING = -1;

        final int[] cells = new int[LONGEST_ROW];
        int lane = NOTHING;
        int length = 0;

        boolean isThere() {
            return lane != NOTHING;
        }

        void begin(int newLane, int newLength) {
            Arrays.fill(cells, 0);
            lane = newLane;
            length = newLength;
        }

        void drop() {
            lane = NOTHING;
            length = 0;
        }

        boolean hasCell(int i) {
            return i >= 0 && i < length;
        }

        /** Written with a difference: i and n may be so large that their sum wraps. */
        boolean hasCells(int i, int n) {
            return i >= 0 && i <= length && n >= 0 && n <= length - i;
        }

        int faultTakenAs(int asLane) {
            if (!isThere()) {
                return NULL;
            }
            return lane == asLane ? NO_FAULT : CAST;
        }

        int read(int i) {
            return hasCell(i) ? cells[i] : 0;
        }

        void write(int i, int v) {
            if (hasCell(i)) {
                cells[i] = cutToLane(v);
            }
        }

        private int cutToLane(int v) {
            switch (lane) {
                case 0: return (byte) v;
                case 1: return (short) v;
                default: return v;
            }
        }
    }

    /** A TEXT. Behind its first code, every GATE and every STORY takes four codes. */
    private static final class Text {
        private static final int ITEM = 4;

        private final Row row;
        private final int start;
        private final int length;
        int gateCount = 0;
        int storyCount = 0;

        Text(Row row, int start, int length) {
            this.row = row;
            this.start = start;
            this.length = length;
        }

        /** The FIRST FAULT, or NONE; it counts the GATES and STORIES as it goes. */
        int firstFault() {
            for (int p = 0; p < length; p++) {
                if (!goesOn(p)) {
                    return p;
                }
            }
            boolean isWhole = storyCount > 0 && length % ITEM == 1;
            return isWhole ? NONE : length;
        }

        int gateKind(int g) {
            return kindOf(codeAt(1 + ITEM * g + 1));
        }

        int gateDigit(int g, int part) {
            return codeAt(1 + ITEM * g + part) - '0';
        }

        int storyDigit(int s, int part) {
            return gateDigit(gateCount + s, part);
        }

        private int codeAt(int p) {
            return row.read(start + p);
        }

        private boolean goesOn(int p) {
            int code = codeAt(p);
            if (p == 0) {
                return code == 'j';
            }
            int part = (p - 1) % ITEM;
            if (part == 0) {
                return beginsItem(code);
            }
            return storyCount == 0 ? fitsGate(part, code) : fitsStory(part, code);
        }

        private boolean beginsItem(int code) {
            if (code == ',' && storyCount == 0 && gateCount < MOST_GATES) {
                gateCount++;
                return true;
            }
            if (code == ';' && gateCount > 0 && storyCount < MOST_STORIES) {
                storyCount++;
                return true;
            }
            return false;
        }

        private static boolean fitsGate(int part, int code) {
            switch (part) {
                case 1: return kindOf(code) != NONE;
                case 2: return isWithin(code, '1', '9');
                default: return isWithin(code, '0', '6');
            }
        }

        private static boolean fitsStory(int part, int code) {
            switch (part) {
                case 1: return isWithin(code, '1', '9');
                case 2: return isWithin(code, '0', '5');
                default: return isWithin(code, '0', '6');
            }
        }

        private static int kindOf(int code) {
            switch (code) {
                case 'g': return 0;
                case 's': return 1;
                case 'l': return 2;
                default: return NONE;
            }
        }
    }

    private static class Gate {
        final int number;
        final int deaf;
        int rate;

        Gate(int number, int rate, int deaf) {
            this.number = number;
            this.rate = rate;
            this.deaf = deaf;
        }

        int kind() {
            return 0;
        }

        int takes(int size, int freshness) {
            return plainTakes(size, freshness);
        }

        int telling(Trace steps) {
            return plainTelling(steps);
        }

        int knocking(Trace steps) {
            steps.leave(4);
            return number;
        }

        /** Apart from takes(), as a LAX one needs a GATE's and not a STRICT one's. */
        final int plainTakes(int size, int freshness) {
            return size * rate * freshness;
        }

        /** Apart from telling(), as a LAX one leaves out the STRICT one's between. */
        final int plainTelling(Trace steps) {
            steps.leave(1);
            return rate;
        }
    }

    private static class Strict extends Gate {
        Strict(int number, int rate, int deaf) {
            super(number, rate, deaf);
        }

        int kind() {
            return 1;
        }

        int takes(int size, int freshness) {
            return size * (rate + 1) * freshness;
        }

        int telling(Trace steps) {
            steps.leave(2);
            return super.telling(steps) + 100;
        }
    }

    private static final class Lax extends Strict {
        Lax(int number, int rate, int deaf) {
            super(number, rate, deaf);
        }

        int kind() {
            return 2;
        }

        int takes(int size, int freshness) {
            return plainTakes(size, freshness) / 2;
        }

        int telling(Trace steps) {
            steps.leave(3);
            int asStrict = super.telling(steps);
            return asStrict + plainTelling(steps);
        }

        int knocking(Trace steps) {
            steps.leave(5);
            return 90;
        }
    }

    private static final class Story {
        int large;
        int person;
        final int born;

        Story(int large, int person, int born) {
            this.large = large;
            this.person = person;
            this.born = born;
        }

        boolean isBornBy(int day) {
            return day >= born;
        }

        int freshness(int day) {
            return Math.max(0, 4 - (day - born));
        }

        int sizeOfThird(int k) {
            return large / THIRDS + (k < large % THIRDS ? 1 : 0);
        }

        int sizeOf(int thirds) {
            int size = 0;
            for (int k = 0; k < THIRDS; k++) {
                if ((thirds & (1 << k)) != 0) {
                    size += sizeOfThird(k);
                }
            }
            return size;
        }
    }

    /** PASSAGES, bundled: a bundle is all THIRDS of one STORY that come to one GATE on one DAY. */
    private static final class Route {
        final int[] stories = new int[MOST_PASSAGES];
        final int[] gates = new int[MOST_PASSAGES];
        final int[] days = new int[MOST_PASSAGES];
        final int[] thirds = new int[MOST_PASSAGES];
        int bundles = 0;
        int firstWrong = NONE;
        private final int[] gone = new int[MOST_STORIES];
        private final int[] lastDays = new int[MOST_STORIES];

        void begin() {
            bundles = 0;
            firstWrong = NONE;
            Arrays.fill(gone, 0);
            Arrays.fill(lastDays, 0);
        }

        /** The story must be one of the town's; what comes behind the FIRST WRONG does not count. */
        void pass(int number, int story, int gate, int day, boolean isBorn) {
            if (firstWrong != NONE || !isWithin(story, 0, MOST_STORIES - 1)) {
                return;
            }
            if (!isBorn || gone[story] >= THIRDS) {
                firstWrong = number;
                return;
            }
            int bundle = bundleOf(story, gate, day);
            if (bundle < MOST_PASSAGES) {
                thirds[bundle] |= 1 << gone[story];
            }
            gone[story]++;
            lastDays[story] = Math.max(lastDays[story], day);
        }

        int wholeDay(int story) {
            boolean isWhole = isWithin(story, 0, MOST_STORIES - 1) && gone[story] == THIRDS;
            return isWhole ? lastDays[story] : NONE;
        }

        private int bundleOf(int story, int gate, int day) {
            for (int b = 0; b < bundles; b++) {
                if (stories[b] == story && gates[b] == gate && days[b] == day) {
                    return b;
                }
            }
            if (bundles >= MOST_PASSAGES) {
                return MOST_PASSAGES;
            }
            stories[bundles] = story;
            gates[bundles] = gate;
            days[bundles] = day;
            thirds[bundles] = 0;
            bundles++;
            return bundles - 1;
        }
    }

    private static final class Readings {
        final int[] gates = new int[MOST_READINGS];
        final int[] pence = new int[MOST_READINGS];
        int count = 0;

        int note(int gate, int paid) {
            if (count >= MOST_READINGS) {
                return FULL;
            }
            gates[count] = gate;
            pence[count] = paid;
            count++;
            return count - 1;
        }
    }

    /** The TOWN, which has neither GATES nor STORIES before a TEXT is taken. */
    private static final class Town {
        private static final int SETS = 8;

        // A key holds the pence above the three spots (10 times the GATE, and the DAY) of THIRDS 0 to 2:
        // keys of parts add up, and the least of all keys is the LEAST that is first as a row, too.
        private static final int SPOT_BITS = 6;
        private static final int SPOT_MASK = 63;
        private static final int PENCE_SHIFT = 18;
        private static final int NO_KEY = 1 << 29;

        Gate[] gates = new Gate[0];
        Story[] stories = new Story[0];
        int harmlessSize = 0;
        private final int[] takings = new int[MOST_GATES];
        private final int[] prices = new int[MOST_GATES * SETS];
        private final int[] bestKeys = new int[SETS];

        static Gate newGate(int kind, int number, int rate, int deaf) {
            switch (kind) {
                case 1: return new Strict(number, rate, deaf);
                case 2: return new Lax(number, rate, deaf);
                default: return new Gate(number, rate, deaf);
            }
        }

        static int penceOf(int key) {
            return key >> PENCE_SHIFT;
        }

        static int spotOf(int key, int third) {
            return (key >> spotShift(third)) & SPOT_MASK;
        }

        /** The TEXT must have no FIRST FAULT. */
        void settle(Text text) {
            gates = new Gate[text.gateCount];
            for (int g = 0; g < gates.length; g++) {
                gates[g] = newGate(text.gateKind(g), g, text.gateDigit(g, 2), text.gateDigit(g, 3));
            }
            stories = new Story[text.storyCount];
            for (int s = 0; s < stories.length; s++) {
                stories[s] = new Story(text.storyDigit(s, 1), text.storyDigit(s, 2), text.storyDigit(s, 3));
            }
            harmlessSize = 0;
        }

        boolean stands() {
            return stories.length > 0;
        }

        Gate gateAt(int g) {
            return g >= 0 && g < gates.length ? gates[g] : null;
        }

        Story storyAt(int s) {
            return s >= 0 && s < stories.length ? stories[s] : null;
        }

        void setGate(Gate gate) {
            if (gateAt(gate.number) != null) {
                gates[gate.number] = gate;
            }
        }

        int dutyOf(Gate gate, Story story, int day, int thirds) {
            int size = story.sizeOf(thirds);
            if (size <= harmlessSize || gate.deaf == story.person) {
                return 0;
            }
            return gate.takes(size, story.freshness(day));
        }

        /** What each GATE takes of a route, for takenAt() and takenInAll(). */
        void collect(Route route) {
            Arrays.fill(takings, 0);
            for (int b = 0; b < route.bundles; b++) {
                Gate gate = gateAt(route.gates[b]);
                Story story = storyAt(route.stories[b]);
                if (gate != null && story != null) {
                    takings[gate.number] += dutyOf(gate, story, route.days[b], route.thirds[b]);
                }
            }
        }

        int takenAt(int g) {
            return isWithin(g, 0, MOST_GATES - 1) ? takings[g] : 0;
        }

        int takenInAll() {
            int sum = 0;
            for (int taken : takings) {
                sum += taken;
            }
            return sum;
        }

        /** The key of the LEAST by a day on which the story is BORN; shut is a GATE, or NO_GATE. */
        int leastKey(Story story, int day, int shut) {
            forgetKeys();
            for (int d = story.born; d <= day; d++) {
                openDay(story, d, shut);
            }
            return bestKeys[ALL_THIRDS];
        }

        int freeDay(Story story) {
            forgetKeys();
            for (int d = story.born; d <= LAST_DAY; d++) {
                openDay(story, d, NO_GATE);
                if (penceOf(bestKeys[ALL_THIRDS]) == 0) {
                    return d;
                }
            }
            return NONE;
        }

        /** In how many ways to choose a GATE for each of the THIRDS no more than so much is PAID. */
        int waysWithin(Story story, int day, int most) {
            setPrices(story, day);
            int ways = 0;
            for (int first = 0; first < gates.length; first++) {
                for (int second = 0; second < gates.length; second++) {
                    for (int third = 0; third < gates.length; third++) {
                        if (pricedBy(first, second, third) <= most) {
                            ways++;
                        }
                    }
                }
            }
            return ways;
        }

        private int pricedBy(int first, int second, int third) {
            int sum = 0;
            for (int g = 0; g < gates.length; g++) {
                int set = (first == g ? 1 : 0) | (second == g ? 2 : 0) | (third == g ? 4 : 0);
                sum += prices[g * SETS + set];
            }
            return sum;
        }

        private void setPrices(Story story, int day) {
            for (Gate gate : gates) {
                for (int set = 0; set < SETS; set++) {
                    prices[gate.number * SETS + set] = dutyOf(gate, story, day, set);
                }
            }
        }

        private void forgetKeys() {
            Arrays.fill(bestKeys, NO_KEY);
            bestKeys[0] = 0;
        }

        private void openDay(Story story, int day, int shut) {
            setPrices(story, day);
            for (int g = 0; g < gates.length; g++) {
                if (g != shut) {
                    openSpot(g, 10 * g + day);
                }
            }
        }

        /** Larger sets first: what they leave to other spots must not have used this one yet. */
        private void openSpot(int g, int spot) {
            for (int set = ALL_THIRDS; set > 0; set--) {
                for (int part = 1; part <= set; part++) {
                    if ((part & set) == part) {
                        int key = bestKeys[set ^ part] + keyOf(prices[g * SETS + part], part, spot);
                        bestKeys[set] = Math.min(bestKeys[set], key);
                    }
                }
            }
        }

        private static int keyOf(int pence, int thirds, int spot) {
            int key = pence << PENCE_SHIFT;
            for (int k = 0; k < THIRDS; k++) {
                if ((thirds & (1 << k)) != 0) {
                    key += spot << spotShift(k);
                }
            }
            return key;
        }

        private static int spotShift(int third) {
            return SPOT_BITS * (THIRDS - 1 - third);
        }
    }
}
