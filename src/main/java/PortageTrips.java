import java.util.Arrays;

/**
 * Over the portage: a path of STAGES between SPOTS, THINGS to be carried over it, TRIPS that are
 * told, the soonest all is over, and what READINGS tell of rain and kinds. The document's words
 * in capitals are used as it uses them.
 */
public final class PortageTrips {
    public static final int UNKNOWN = -1, OUTSIDE = -2, STATE = -3, FULL = -4, NONE = -9;
    public static final long LOST = Long.MIN_VALUE;

    private static final int NULL = 1, CAST = 2, INDEX = 3, SIZE = 4;
    private static final int FOOD = 1, CHILD = 2, KINDS = 3;
    private static final int BYTES = 0, SHORTS = 1, LANES = 3;
    private static final int SHEETS = 4, MOST_CELLS = 60;
    private static final int MOST_STAGES = 3, MOST_THINGS = 4, MOST_TRIPS = 18, MOST_READINGS = 8;
    private static final int MOST_BORNE = 36, LAST_RAIN = 99, LAST_READING = 99, LAST_MINUTE = 999;
    private static final int LAST_SINCE = 30;
    private static final int FIRST_AT_SPOT = 10;

    private final Portage portage = new Portage();
    /** Where a PORTAGE is tried that may not become the one that is. */
    private final Portage draft = new Portage();
    private final Sheet[] sheets = new Sheet[SHEETS];
    private final Readings readings = new Readings();
    private final Walk walk = new Walk();
    private final Search search = new Search();
    private final int[] plan = new int[Search.STATES];
    private int planMinutes;
    private int planTrips;
    private boolean planIsKnown;
    private int fewestTrips;
    private boolean fewestIsKnown;
    private int traceNow;
    private int faultNow;

    public PortageTrips() {
        for (int k = 0; k < SHEETS; k++) {
            sheets[k] = new Sheet();
        }
    }

    // ---- 1 the portage

    public int portage(int sheet, int lane, int i, int n) {
        faultNow = 0;
        if (!isSheet(sheet)) {
            return UNKNOWN;
        }
        if (!isLane(lane)) {
            return OUTSIDE;
        }
        Sheet from = sheets[sheet];
        int amiss = from.faultAs(lane);
        if (amiss != 0) {
            return faulted(amiss);
        }
        if (n < 0) {
            return faulted(SIZE);
        }
        if (!from.hasCells(i, n)) {
            return faulted(INDEX);
        }
        int first = draft.readText(from, i, n);
        if (first != NONE) {
            return -100 - first;
        }
        portage.become(draft);
        readings.count = 0;
        forgetSearches();
        return portage.things;
    }

    public int ofStage(int k, int what) {
        if (!portage.hasStage(k)) {
            return UNKNOWN;
        }
        switch (what) {
            case 0:
                return portage.lengths[k];
            case 1:
                return portage.muds[k];
            case 2:
                return portage.boarded[k] ? 1 : 0;
            default:
                return OUTSIDE;
        }
    }

    public int ofThing(int t, int what) {
        if (!portage.hasThing(t)) {
            return UNKNOWN;
        }
        switch (what) {
            case 0:
                return portage.kindRow[t];
            case 1:
                return portage.poundRow[t];
            default:
                return OUTSIDE;
        }
    }

    public int bears(int v) {
        if (v < 1 || v > MOST_BORNE) {
            return OUTSIDE;
        }
        if (!portage.isThere()) {
            return STATE;
        }
        int before = portage.strength;
        portage.strength = v;
        forgetSearches();
        return before;
    }

    public int rain(int v) {
        if (v != NONE && (v < 0 || v > LAST_RAIN)) {
            return OUTSIDE;
        }
        if (!portage.isThere()) {
            return STATE;
        }
        int before = portage.rainFrom;
        portage.rainFrom = v;
        forgetSearches();
        return before;
    }

    public int boards(int k, boolean are) {
        if (!portage.hasStage(k)) {
            return UNKNOWN;
        }
        if (portage.boarded[k] == are) {
            return 0;
        }
        portage.boarded[k] = are;
        forgetSearches();
        return 1;
    }

    public int well(int set) {
        if (!portage.hasAllOf(set)) {
            return OUTSIDE;
        }
        if (!portage.isThere()) {
            return STATE;
        }
        return portage.wellOnes(set);
    }

    // ---- 2 trips

    public int trips(int sheet, int lane, int i, int n, int what) {
        faultNow = 0;
        boolean asked = what >= 0 && what <= 2
            || what >= FIRST_AT_SPOT && what <= FIRST_AT_SPOT + MOST_STAGES;
        int no = takeTrips(sheet, lane, i, n, asked);
        if (no != 0) {
            return no;
        }
        walk.go(portage);
        if (what == 1) {
            return walk.wrong;
        }
        if (walk.wrong != NONE) {
            return -100 - walk.wrong;
        }
        if (what == 0) {
            return walk.minutes();
        }
        if (what == 2) {
            return walk.spot;
        }
        int spot = what - FIRST_AT_SPOT;
        return portage.hasSpot(spot) ? walk.thingsAt(spot) : NONE;
    }

    public int at(int t, int m, int sheet, int lane, int i, int n) {
        faultNow = 0;
        if (!portage.hasThing(t)) {
            return UNKNOWN;
        }
        if (m < 0 || m > LAST_MINUTE) {
            return OUTSIDE;
        }
        int no = takeTrips(sheet, lane, i, n, true);
        if (no != 0) {
            return no;
        }
        walk.go(portage);
        return walk.wrong == NONE ? walk.spotOf(t, m) : -100 - walk.wrong;
    }

    public long dry(int sheet, int lane, int i, int n, int which) {
        faultNow = 0;
        if (takeTrips(sheet, lane, i, n, which == 0 || which == 1) != 0) {
            return LOST;
        }
        walk.go(portage);
        if (walk.wrong != NONE) {
            return LOST;
        }
        return which == 0 ? walk.upper : walk.lower;
    }

    /** The TRIPS told by a SHEET, given to the walk; or what the call answers in their stead. */
    private int takeTrips(int sheet, int lane, int i, int n, boolean isAskedAsTold) {
        if (!isSheet(sheet)) {
            return UNKNOWN;
        }
        if (!isLane(lane) || n < 0 || n > MOST_TRIPS || !isAskedAsTold) {
            return OUTSIDE;
        }
        Sheet from = sheets[sheet];
        int amiss = from.faultAs(lane);
        if (amiss != 0) {
            return faulted(amiss);
        }
        if (!from.hasCells(i, 2 * n)) {
            return faulted(INDEX);
        }
        if (!portage.isThere()) {
            return STATE;
        }
        walk.count = 0;
        for (int k = 0; k < n; k++) {
            int spot = from.cells[i + 2 * k];
            int set = from.cells[i + 2 * k + 1];
            if (!portage.hasSpot(spot)) {
                return UNKNOWN;
            }
            if (!portage.hasAllOf(set)) {
                return OUTSIDE;
            }
            walk.add(spot, set);
        }
        return 0;
    }

    // ---- 3 the soonest

    public int soonest() {
        if (!portage.isThere()) {
            return STATE;
        }
        makePlan();
        return planMinutes;
    }

    public int trip(int k, int what) {
        if (k < 0) {
            return UNKNOWN;
        }
        if (what < 0 || what > 1) {
            return OUTSIDE;
        }
        if (!portage.isThere()) {
            return STATE;
        }
        makePlan();
        if (k >= planTrips) {
            return NONE;
        }
        return what == 0 ? plan[k] / Search.SETS : plan[k] % Search.SETS;
    }

    public int fewest() {
        if (!portage.isThere()) {
            return STATE;
        }
        if (!fewestIsKnown) {
            fewestTrips = search.least(portage, true);
            fewestIsKnown = true;
        }
        return fewestTrips;
    }

    public int cost(int t) {
        if (!portage.hasThing(t)) {
            return UNKNOWN;
        }
        if (portage.things == 1) {
            return NONE;
        }
        makePlan();
        if (planMinutes == NONE) {
            return NONE;
        }
        draft.become(portage);
        draft.dropThing(t);
        int without = search.least(draft, false);
        return without == NONE ? NONE : planMinutes - without + 1000;
    }

    public int help(int v) {
        if (v < 0 || v > MOST_BORNE) {
            return OUTSIDE;
        }
        if (!portage.isThere()) {
            return STATE;
        }
        makePlan();
        if (planMinutes == NONE) {
            return NONE;
        }
        draft.become(portage);
        draft.strength += v;
        int then = search.least(draft, false);
        return then == NONE ? NONE : planMinutes - then;
    }

    /** The SOONEST is asked for often and searched for once: it stays until something changes. */
    private void makePlan() {
        if (planIsKnown) {
            return;
        }
        planMinutes = search.least(portage, false);
        planTrips = planMinutes == NONE ? 0 : search.layRow(plan);
        planIsKnown = true;
    }

    private void forgetSearches() {
        planIsKnown = false;
        fewestIsKnown = false;
    }

    // ---- 4 what was seen

    public int reading(int t, int spot, int minute) {
        if (!portage.hasThing(t) || !portage.hasSpot(spot)) {
            return UNKNOWN;
        }
        if (minute < 0 || minute > LAST_READING) {
            return OUTSIDE;
        }
        return readings.add(t, spot, minute);
    }

    public int back(int k) {
        if (k < 0 || k > readings.count) {
            return OUTSIDE;
        }
        readings.count -= k;
        return readings.count;
    }

    public int since(int sheet, int lane, int i, int n) {
        faultNow = 0;
        int no = takeTrips(sheet, lane, i, n, true);
        if (no != 0) {
            return no;
        }
        draft.become(portage);
        int set = 0;
        for (int minute = 0; minute <= LAST_SINCE; minute++) {
            draft.rainFrom = minute;
            if (draftIsAsRead()) {
                set |= 1 << minute;
            }
        }
        return set;
    }

    public int kinds(int t, int sheet, int lane, int i, int n) {
        faultNow = 0;
        if (!portage.hasThing(t)) {
            return UNKNOWN;
        }
        int no = takeTrips(sheet, lane, i, n, true);
        if (no != 0) {
            return no;
        }
        draft.become(portage);
        int set = 0;
        for (int kind = 0; kind < KINDS; kind++) {
            draft.kindRow[t] = kind;
            if (draftIsAsRead()) {
                set |= 1 << kind;
            }
        }
        return set;
    }

    private boolean draftIsAsRead() {
        walk.go(draft);
        return walk.wrong == NONE && readings.areSoBy(walk);
    }

    // ---- 5 sheets, parts

    public int sheet(int k, int lane, int n) {
        faultNow = 0;
        if (!isSheet(k)) {
            return UNKNOWN;
        }
        if (!isLane(lane) || n > MOST_CELLS) {
            return OUTSIDE;
        }
        if (n < 0) {
            return faulted(SIZE);
        }
        sheets[k].renew(lane, n);
        return 1;
    }

    public int lose(int k) {
        if (!isSheet(k)) {
            return UNKNOWN;
        }
        if (sheets[k].isNothing()) {
            return 0;
        }
        sheets[k].renew(NONE, 0);
        return 1;
    }

    public int put(int k, int i, int v) {
        faultNow = 0;
        if (!isSheet(k)) {
            return UNKNOWN;
        }
        Sheet to = sheets[k];
        if (to.isNothing()) {
            return faulted(NULL);
        }
        if (!to.hasCell(i)) {
            return faulted(INDEX);
        }
        to.write(i, v);
        return 1;
    }

    public long cell(int k, int i, int lane) {
        faultNow = 0;
        if (!isSheet(k) || !isLane(lane)) {
            return LOST;
        }
        Sheet from = sheets[k];
        faultNow = from.faultAs(lane);
        if (faultNow == 0 && !from.hasCell(i)) {
            faultNow = INDEX;
        }
        return faultNow == 0 ? from.cells[i] : LOST;
    }

    public int copy(int k, int i, int other, int j, int n) {
        faultNow = 0;
        if (!isSheet(k) || !isSheet(other)) {
            return UNKNOWN;
        }
        Sheet from = sheets[k];
        Sheet to = sheets[other];
        if (from.isNothing() || to.isNothing()) {
            return faulted(NULL);
        }
        if (from.lane != to.lane) {
            return faulted(CAST);
        }
        if (!from.hasCells(i, n) || !to.hasCells(j, n)) {
            return faulted(INDEX);
        }
        System.arraycopy(from.cells, i, to.cells, j, n);
        return n;
    }

    public int tell(int t) {
        if (!portage.hasThing(t)) {
            return UNKNOWN;
        }
        switch (portage.kindRow[t]) {
            case CHILD:
                return tellAsChild(t);
            case FOOD:
                return tellAsFood(t);
            default:
                return tellAsThing(t);
        }
    }

    public int hail(int t) {
        if (!portage.hasThing(t)) {
            return UNKNOWN;
        }
        if (portage.kindRow[t] == CHILD) {
            leave(5);
            return 60;
        }
        leave(4);
        return t;
    }

    public int as(int t, int kind) {
        faultNow = 0;
        if (!portage.hasThing(t)) {
            return UNKNOWN;
        }
        if (kind < 0 || kind >= KINDS) {
            return OUTSIDE;
        }
        // The kinds lie in one another: a kind is all the lower ones, too.
        return portage.kindRow[t] < kind ? faulted(CAST) : 1;
    }

    public int trace() {
        return traceNow;
    }

    public int fault() {
        return faultNow;
    }

    public int many(int what) {
        switch (what) {
            case 0:
                return portage.stages;
            case 1:
                return portage.things;
            case 2:
                return portage.strength;
            case 3:
                return readings.count;
            default:
                return OUTSIDE;
        }
    }

    private int tellAsThing(int t) {
        leave(1);
        return portage.poundRow[t];
    }

    private int tellAsFood(int t) {
        leave(2);
        return tellAsThing(t) + 100;
    }

    private int tellAsChild(int t) {
        leave(3);
        int asFood = tellAsFood(t);
        return asFood + tellAsThing(t);
    }

    private void leave(int body) {
        traceNow = 31 * traceNow + body;
    }

    private int faulted(int which) {
        faultNow = which;
        return -10 - which;
    }

    private static boolean isSheet(int k) {
        return k >= 0 && k < SHEETS;
    }

    private static boolean isLane(int lane) {
        return lane >= 0 && lane < LANES;
    }

    /** A row of cells of a LANE, or nothing; the row itself is made once and used again. */
    private static final class Sheet {
        private int lane = NONE;
        private int size;
        private final int[] cells = new int[MOST_CELLS];

        void renew(int newLane, int newSize) {
            lane = newLane;
            size = newSize;
            Arrays.fill(cells, 0);
        }

        boolean isNothing() {
            return lane == NONE;
        }

        /** The FAULT of taking it as a row of a LANE: NULL, CAST, or 0. */
        int faultAs(int wanted) {
            if (isNothing()) {
                return NULL;
            }
            return lane == wanted ? 0 : CAST;
        }

        boolean hasCell(int i) {
            return i >= 0 && i < size;
        }

        /** Whether n cells are there from i on; i is looked at even if none is taken. */
        boolean hasCells(int i, int n) {
            return n >= 0 && i >= 0 && i <= size && n <= size - i;
        }

        void write(int i, int v) {
            if (lane == BYTES) {
                cells[i] = (byte) v;
            } else if (lane == SHORTS) {
                cells[i] = (short) v;
            } else {
                cells[i] = v;
            }
        }
    }

    /** The path, the THINGS, the one who carries and the weather, as they are or might be. */
    private static final class Portage {
        private static final int BROKEN = 0, MARK = 1, BEARS = 2, PART = 3, LONG = 4, MUD = 5;
        private static final int KIND = 6, POUNDS = 7;

        private int strength;
        private int rainFrom = NONE;
        private int stages;
        private final int[] lengths = new int[MOST_STAGES];
        private final int[] muds = new int[MOST_STAGES];
        private final boolean[] boarded = new boolean[MOST_STAGES];
        private int things;
        private final int[] kindRow = new int[MOST_THINGS];
        private final int[] poundRow = new int[MOST_THINGS];

        boolean isThere() {
            return stages > 0;
        }

        boolean hasStage(int k) {
            return k >= 0 && k < stages;
        }

        boolean hasSpot(int spot) {
            return isThere() && spot >= 0 && spot <= stages;
        }

        boolean hasThing(int t) {
            return t >= 0 && t < things;
        }

        boolean hasAllOf(int set) {
            return set >>> things == 0;
        }

        void become(Portage other) {
            strength = other.strength;
            rainFrom = other.rainFrom;
            stages = other.stages;
            things = other.things;
            for (int k = 0; k < MOST_STAGES; k++) {
                lengths[k] = other.lengths[k];
                muds[k] = other.muds[k];
                boarded[k] = other.boarded[k];
            }
            for (int t = 0; t < MOST_THINGS; t++) {
                kindRow[t] = other.kindRow[t];
                poundRow[t] = other.poundRow[t];
            }
        }

        void dropThing(int gone) {
            for (int t = gone; t + 1 < things; t++) {
                kindRow[t] = kindRow[t + 1];
                poundRow[t] = poundRow[t + 1];
            }
            things--;
        }

        /** Becomes what a TEXT tells: NONE, or the FIRST FAULT (then it is half told). */
        int readText(Sheet from, int i, int n) {
            clear();
            int due = MARK;
            for (int place = 0; place < n; place++) {
                due = readCode(due, from.cells[i + place]);
                if (due == BROKEN) {
                    return place;
                }
            }
            return due == PART && things > 0 ? NONE : n;
        }

        private void clear() {
            strength = 0;
            rainFrom = NONE;
            stages = 0;
            things = 0;
            for (int k = 0; k < MOST_STAGES; k++) {
                boarded[k] = false;
            }
        }

        /** What is due behind a code; BROKEN: with it no TEXT goes on. */
        private int readCode(int due, int code) {
            switch (due) {
                case MARK:
                    return code == 'g' ? BEARS : BROKEN;
                case PART:
                    return startPart(code);
                case KIND:
                    return readKind(code);
                default:
                    return readDigit(due, code - '0');
            }
        }

        private int startPart(int code) {
            if (code == ';' && things == 0 && stages < MOST_STAGES) {
                return LONG;
            }
            if (code == ',' && stages > 0 && things < MOST_THINGS) {
                return KIND;
            }
            return BROKEN;
        }

        private int readKind(int code) {
            int kind = kindOfLetter(code);
            if (kind == NONE) {
                return BROKEN;
            }
            kindRow[things] = kind;
            return POUNDS;
        }

        private int readDigit(int due, int digit) {
            boolean isMud = due == MUD;
            if (digit < (isMud ? 0 : 1) || digit > (isMud ? 4 : 9)) {
                return BROKEN;
            }
            switch (due) {
                case BEARS:
                    strength = digit;
                    return PART;
                case LONG:
                    lengths[stages] = digit;
                    return MUD;
                case MUD:
                    muds[stages] = digit;
                    stages++;
                    return PART;
                case POUNDS:
                    poundRow[things] = digit;
                    things++;
                    return PART;
                default:
                    return BROKEN;
            }
        }

        private static int kindOfLetter(int code) {
            switch (code) {
                case 't':
                    return 0;
                case 'f':
                    return FOOD;
                case 'c':
                    return CHILD;
                default:
                    return NONE;
            }
        }

        /** Those of a set at one SPOT that are WELL without him. */
        int wellOnes(int set) {
            int food = set & foodOnes();
            int fine = 0;
            for (int t = 0; t < things; t++) {
                int others = set & ~(1 << t);
                if (isIn(set, t) && isWell(kindRow[t], others, food)) {
                    fine |= 1 << t;
                }
            }
            return fine;
        }

        private static boolean isWell(int kind, int others, int food) {
            switch (kind) {
                case FOOD:
                    return others != 0;
                case CHILD:
                    return others != 0 && food == 0;
                default:
                    return true;
            }
        }

        /** Those of kind FOOD itself: a CHILD is not counted here. */
        private int foodOnes() {
            int food = 0;
            for (int t = 0; t < things; t++) {
                if (kindRow[t] == FOOD) {
                    food |= 1 << t;
                }
            }
            return food;
        }

        int load(int set) {
            int sum = 0;
            for (int t = 0; t < things; t++) {
                if (isIn(set, t)) {
                    sum += poundRow[t];
                }
            }
            return sum;
        }

        boolean rainsIn(int minute) {
            return rainFrom != NONE && minute >= rainFrom;
        }

        /** MUD as a TRIP with a load has it. */
        int mudUnder(int stage, boolean inRain) {
            if (boarded[stage]) {
                return 0;
            }
            return inRain ? 2 * muds[stage] : muds[stage];
        }

        /** Whether any THING is carried shows in the load: each has POUNDS. */
        int minutesOver(int stage, int load, boolean inRain) {
            if (load == 0) {
                return lengths[stage];
            }
            return lengths[stage] + mudUnder(stage, inRain) + load / 3;
        }

        static boolean isIn(int set, int t) {
            return (set >> t & 1) == 1;
        }
    }

    /** TRIPS that are told, gone one by one as far as they can be. */
    private static final class Walk {
        private int count;
        private final int[] spots = new int[MOST_TRIPS];
        private final int[] sets = new int[MOST_TRIPS];
        /** begins[k + 1] is where TRIP k ends, too: the next one begins at once. */
        private final int[] begins = new int[MOST_TRIPS + 1];
        /** What lies at each SPOT (or is there with him), as a set. */
        private final int[] heaps = new int[MOST_STAGES + 1];
        private int spot;
        private int wrong = NONE;
        private long upper = 1;
        private long lower = 1;

        void add(int toSpot, int set) {
            if (count < MOST_TRIPS) {
                spots[count] = toSpot;
                sets[count] = set;
                count++;
            }
        }

        void go(Portage p) {
            spot = 0;
            wrong = NONE;
            upper = 1;
            lower = 1;
            Arrays.fill(heaps, 0);
            heaps[0] = (1 << p.things) - 1;
            for (int k = 0; k < count; k++) {
                if (!canGo(p, k)) {
                    wrong = k;
                    return;
                }
                goOne(p, k);
            }
            cutShare();
        }

        private boolean canGo(Portage p, int k) {
            int set = sets[k];
            int stay = heaps[spot] & ~set;
            return Math.abs(spots[k] - spot) == 1
                && (set & ~heaps[spot]) == 0
                && p.load(set) <= p.strength
                && p.wellOnes(stay) == stay;
        }

        private void goOne(Portage p, int k) {
            int set = sets[k];
            int stage = Math.min(spot, spots[k]);
            boolean inRain = p.rainsIn(begins[k]);
            begins[k + 1] = begins[k] + p.minutesOver(stage, p.load(set), inRain);
            if (set != 0) {
                upper *= 10 - p.mudUnder(stage, inRain);
                lower *= 10;
            }
            heaps[spot] &= ~set;
            spot = spots[k];
            heaps[spot] |= set;
        }

        /** Eighteen TRIPS make 10 to the 18th at most, so the share is cut only at the end. */
        private void cutShare() {
            long a = lower;
            long b = upper;
            for (int guard = 0; guard < 100 && b != 0; guard++) {
                long rest = a % b;
                a = b;
                b = rest;
            }
            if (a > 1) {
                upper /= a;
                lower /= a;
            }
        }

        int minutes() {
            return begins[count];
        }

        int thingsAt(int where) {
            return heaps[where];
        }

        /** The SPOT of a THING as a MINUTE ends; NONE: it is on the way. */
        int spotOf(int t, int minute) {
            int place = 0;
            for (int k = 0; k < count && begins[k] <= minute; k++) {
                if (Portage.isIn(sets[k], t)) {
                    if (minute < begins[k + 1]) {
                        return NONE;
                    }
                    place = spots[k];
                }
            }
            return place;
        }
    }

    /** What was seen: THINGS at SPOTS as MINUTES ended. */
    private static final class Readings {
        private int count;
        private final int[] seen = new int[MOST_READINGS];
        private final int[] spots = new int[MOST_READINGS];
        private final int[] minutes = new int[MOST_READINGS];

        /** The number of the new one; FULL: there are too many. */
        int add(int t, int spot, int minute) {
            if (count >= MOST_READINGS) {
                return FULL;
            }
            seen[count] = t;
            spots[count] = spot;
            minutes[count] = minute;
            return count++;
        }

        boolean areSoBy(Walk walk) {
            for (int k = 0; k < count; k++) {
                if (walk.spotOf(seen[k], minutes[k]) != spots[k]) {
                    return false;
                }
            }
            return true;
        }
    }

    /**
     * The search for TRIPS by which all is over. A state's number has two bits for the SPOT where
     * he is and two more for each THING. A later begin never ends a TRIP sooner, rain or not, so
     * the least MINUTES to each state are all that has to be kept, and rows of the SOONEST come
     * to each of their states in just those.
     */
    private static final class Search {
        private static final int STATES = 1024, SETS = 16, MOVES = 2 * SETS;
        private static final int NO_STATE = -1, NO_MOVE = -1;
        /** Beyond what any row of TRIPS can take: 1024 states, below 32 MINUTES a TRIP. */
        private static final int FAR = 1000000;
        /** More than any TRIP takes (9 and 8 and 12), so that a bucket holds one minute's states. */
        private static final int BUCKETS = 32;

        private int things;
        private int last;
        private int goal;
        private int wetFrom;
        private final boolean[] mayGo = new boolean[SETS];
        private final boolean[] mayStay = new boolean[SETS];
        /** What is added to a state's number as he takes a set to the next SPOT. */
        private final int[] strides = new int[SETS];
        /** What a set takes over a STAGE: first those of all STAGES in the dry, then in rain. */
        private final int[] takes = new int[2 * MOST_STAGES * SETS];

        private final int[] reach = new int[STATES];
        private final int[] order = new int[STATES];
        private int settled;
        private int waiting;
        private final int[] firsts = new int[BUCKETS];
        private final int[] nexts = new int[STATES];
        private final int[] formers = new int[STATES];
        private final int[] tripsLeft = new int[STATES];

        /** The least MINUTES (or TRIPS) until all is over; NONE: by none. */
        int least(Portage p, boolean byTrips) {
            prepare(p, byTrips);
            offer(0, 0);
            for (int now = 0; now < STATES * BUCKETS && waiting > 0; now++) {
                settleAll(now);
                if (reach[goal] == now) {
                    return now;
                }
            }
            return NONE;
        }

        private void prepare(Portage p, boolean byTrips) {
            things = p.things;
            last = p.stages;
            goal = last;
            for (int t = 0; t < things; t++) {
                goal += last << 2 * t + 2;
            }
            wetFrom = p.rainFrom == NONE ? FAR : p.rainFrom;
            for (int set = 0; set < 1 << things; set++) {
                prepareSet(p, set, byTrips);
            }
            settled = 0;
            waiting = 0;
            Arrays.fill(reach, FAR);
            Arrays.fill(firsts, NO_STATE);
        }

        private void prepareSet(Portage p, int set, boolean byTrips) {
            int load = p.load(set);
            mayGo[set] = load <= p.strength;
            mayStay[set] = p.wellOnes(set) == set;
            strides[set] = 1;
            for (int t = 0; t < things; t++) {
                if (Portage.isIn(set, t)) {
                    strides[set] += 1 << 2 * t + 2;
                }
            }
            for (int stage = 0; stage < last; stage++) {
                int dry = stage * SETS + set;
                int wet = dry + MOST_STAGES * SETS;
                takes[dry] = byTrips ? 1 : p.minutesOver(stage, load, false);
                takes[wet] = byTrips ? 1 : p.minutesOver(stage, load, true);
            }
        }

        private void settleAll(int now) {
            int state = firsts[now % BUCKETS];
            firsts[now % BUCKETS] = NO_STATE;
            for (int guard = 0; guard < STATES && state != NO_STATE && settled < STATES; guard++) {
                order[settled] = state;
                settled++;
                waiting--;
                spread(state, now);
                state = nexts[state];
            }
        }

        private void spread(int state, int now) {
            int here = thingsHere(state);
            for (int move = 0; move < MOVES; move++) {
                int to = stateBehind(state, here, move);
                if (to != NO_STATE) {
                    offer(to, now + minutesOf(state, move, now));
                }
            }
        }

        private int thingsHere(int state) {
            int spot = state & 3;
            int set = 0;
            for (int t = 0; t < things; t++) {
                if ((state >> 2 * t + 2 & 3) == spot) {
                    set |= 1 << t;
                }
            }
            return set;
        }

        /** The lower half of the moves goes down a SPOT: their order is the order of TRIPS. */
        private static int spotBehind(int state, int move) {
            return (state & 3) + (move < SETS ? -1 : 1);
        }

        /** The state that a TRIP leads to; NO_STATE: it can't be. */
        private int stateBehind(int state, int here, int move) {
            int set = move % SETS;
            int spot = spotBehind(state, move);
            if (spot < 0 || spot > last || (set & ~here) != 0) {
                return NO_STATE;
            }
            if (!mayGo[set] || !mayStay[here & ~set]) {
                return NO_STATE;
            }
            return move < SETS ? state - strides[set] : state + strides[set];
        }

        private int minutesOf(int state, int move, int begin) {
            int stage = (state & 3) - (move < SETS ? 1 : 0);
            int weather = begin >= wetFrom ? MOST_STAGES * SETS : 0;
            return takes[weather + stage * SETS + move % SETS];
        }

        private void offer(int state, int minutes) {
            if (minutes >= reach[state]) {
                return;
            }
            if (reach[state] == FAR) {
                waiting++;
            } else {
                takeOut(state);
            }
            reach[state] = minutes;
            int bucket = minutes % BUCKETS;
            int next = firsts[bucket];
            nexts[state] = next;
            formers[state] = NO_STATE;
            if (next != NO_STATE) {
                formers[next] = state;
            }
            firsts[bucket] = state;
        }

        private void takeOut(int state) {
            int next = nexts[state];
            int former = formers[state];
            if (next != NO_STATE) {
                formers[next] = former;
            }
            if (former != NO_STATE) {
                nexts[former] = next;
            } else {
                firsts[reach[state] % BUCKETS] = next;
            }
        }

        /** Lays the TRIPS of the search just made into a row (SPOT times SETS and set): how many. */
        int layRow(int[] row) {
            countTripsLeft();
            int state = 0;
            int laid = 0;
            for (int k = 0; k < row.length && state != goal && state != NO_STATE; k++) {
                int move = bestMove(state);
                if (move == NO_MOVE) {
                    return laid;
                }
                row[k] = spotBehind(state, move) * SETS + move % SETS;
                laid++;
                state = stateBehind(state, thingsHere(state), move);
            }
            return laid;
        }

        /** From the goal back, as later states were settled later. */
        private void countTripsLeft() {
            Arrays.fill(tripsLeft, FAR);
            for (int k = settled - 1; k >= 0; k--) {
                int state = order[k];
                int move = bestMove(state);
                if (state == goal) {
                    tripsLeft[state] = 0;
                } else if (move != NO_MOVE) {
                    int to = stateBehind(state, thingsHere(state), move);
                    tripsLeft[state] = to == NO_STATE ? FAR : tripsLeft[to] + 1;
                }
            }
        }

        /** The first of the moves that lead on in time and leave the fewest TRIPS. */
        private int bestMove(int state) {
            int here = thingsHere(state);
            int best = NO_MOVE;
            int fewestLeft = FAR;
            for (int move = 0; move < MOVES; move++) {
                int to = stateBehind(state, here, move);
                if (to != NO_STATE && tripsLeft[to] < fewestLeft && isInTime(state, move, to)) {
                    best = move;
                    fewestLeft = tripsLeft[to];
                }
            }
            return best;
        }

        private boolean isInTime(int state, int move, int to) {
            return reach[to] == reach[state] + minutesOf(state, move, reach[state]);
        }
    }
}
