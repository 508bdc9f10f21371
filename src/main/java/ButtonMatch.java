import java.util.Arrays;

/** Matches a button that is missing from a coat; the document DOC.md tells what each call answers. */
public final class ButtonMatch {
    public static final int UNKNOWN = -1, OUTSIDE = -2, STATE = -3, FULL = -4, NONE = -9;
    public static final long LOST = Long.MIN_VALUE;

    private static final int FAULT_NULL = 1, FAULT_CAST = 2, FAULT_INDEX = 3, FAULT_SIZE = 4;
    private static final int SHEET_COUNT = 4, LANE_COUNT = 3, LONGEST_ROW = 60;
    private static final int MOST_TUBES = 6, MOST_READINGS = 8, PLACE_COUNT = 6;
    private static final int KIND_TUBE = 0, KIND_SHADED = 1, KIND_OLD = 2, KIND_COUNT = 3;
    private static final int TOP_COLOUR = 7, TOP_SIZE = 9, TOP_COUNT = 9;
    private static final int TOP_SHIFT = 3, TOP_NEAR = 20, TOP_DRAWN = 9;
    private static final int LONGEST_SEARCH = 20, SIGN_COUNT = 3;

    /** All orders of the three signs, three by three, the first as a row first. */
    private static final int[] SIGN_ORDERS = {0, 1, 2, 0, 2, 1, 1, 0, 2, 1, 2, 0, 2, 0, 1, 2, 1, 0};

    private final Sheet[] sheets = new Sheet[SHEET_COUNT];
    private final Shop shop = new Shop();
    private final Readings readings = new Readings();
    private int trace = 0;
    private int fault = 0;

    public ButtonMatch() {
        for (int k = 0; k < SHEET_COUNT; k++) {
            sheets[k] = new Sheet();
        }
    }

    // ---- 1 the shop

    public int shop(int sheet, int lane, int i, int n) {
        int refusal = refusalOfRow(sheet, lane, i, n, true);
        if (refusal != 0) {
            return refusal;
        }
        Sheet row = sheets[sheet];
        int wrongPlace = Text.firstFault(row, i, n);
        if (wrongPlace != Text.NO_FAULT) {
            return -100 - wrongPlace;
        }
        shop.stockFrom(row, i, n);
        readings.count = 0;
        return shop.tubeCount;
    }

    public int wanted(int what) {
        if (what < 0 || what > 3) {
            return OUTSIDE;
        }
        return shop.isOpen() ? shop.wantedPart(what) : STATE;
    }

    public int seen(int place) {
        if (!isPlace(place)) {
            return UNKNOWN;
        }
        return shop.isOpen() ? shop.seen[place] : STATE;
    }

    public int ofTube(int t, int what) {
        if (!shop.hasTube(t)) {
            return UNKNOWN;
        }
        return what < 0 || what > 7 ? OUTSIDE : shop.tubes[t].part(what);
    }

    public int remember(int redder, int larger) {
        if (redder < 0 || redder > TOP_SHIFT || larger < 0 || larger > TOP_SHIFT) {
            return OUTSIDE;
        }
        if (!shop.isOpen()) {
            return STATE;
        }
        int before = memory(shop.redder, shop.larger);
        shop.redder = redder;
        shop.larger = larger;
        return before;
    }

    public int near(int v) {
        if (v < 0 || v > TOP_NEAR) {
            return OUTSIDE;
        }
        if (!shop.isOpen()) {
            return STATE;
        }
        int before = shop.near;
        shop.near = v;
        return before;
    }

    public int stock(int t, int v) {
        if (!shop.hasTube(t)) {
            return UNKNOWN;
        }
        if (v < 0 || v > TOP_COUNT) {
            return OUTSIDE;
        }
        int before = shop.tubes[t].count;
        shop.tubes[t].count = v;
        return before;
    }

    public int far(int t) {
        return shop.hasTube(t) ? shop.farFromRemembered(t) : UNKNOWN;
    }

    // ---- 2 searches

    public int search(int sheet, int lane, int i, int n, int what) {
        boolean inside = n >= 0 && n <= LONGEST_SEARCH && what >= 0 && what <= 2;
        int refusal = refusalOfRow(sheet, lane, i, n, inside);
        if (refusal != 0) {
            return refusal;
        }
        if (!shop.isOpen()) {
            return STATE;
        }
        Sheet row = sheets[sheet];
        return shop.hasAllTubes(row, i, n) ? shop.searched(row, i, n, what) : UNKNOWN;
    }

    public int sieve(int sheet, int lane, int i, int n, int what) {
        boolean inside = n >= 0 && n <= SIGN_COUNT && what >= 0 && what <= 1;
        int refusal = refusalOfRow(sheet, lane, i, n, inside);
        if (refusal != 0) {
            return refusal;
        }
        if (!shop.isOpen()) {
            return STATE;
        }
        Sheet row = sheets[sheet];
        return areSigns(row, i, n) ? shop.sieved(row.cells, i, n, what) : OUTSIDE;
    }

    // ---- 3 orders, places

    /**
     * She stands at TUBE 0; to each other one she goes 1 or more, and 0, 1, 2 .. is the only order by which it is
     * always 1: so no other is as quick. The k-th is looked at by 2k + 1 SECONDS, which together are a square.
     */
    public int quick(int k) {
        if (k < -1) {
            return UNKNOWN;
        }
        if (!shop.isOpen()) {
            return STATE;
        }
        if (k == -1) {
            return shop.tubeCount * shop.tubeCount;
        }
        return k < shop.tubeCount ? k : NONE;
    }

    public int signs(int k) {
        if (k < -1 || k >= SIGN_COUNT) {
            return OUTSIDE;
        }
        if (!shop.isOpen()) {
            return STATE;
        }
        int best = 0;
        int least = shop.secondsBySigns(best);
        for (int order = SIGN_COUNT; order + SIGN_COUNT <= SIGN_ORDERS.length; order += SIGN_COUNT) {
            int seconds = shop.secondsBySigns(order);
            if (seconds < least) {
                best = order;
                least = seconds;
            }
        }
        return k == -1 ? least : SIGN_ORDERS[best + k];
    }

    public int sew(int place, int what) {
        if (!isPlace(place)) {
            return UNKNOWN;
        }
        if (what < 0 || what > 2) {
            return OUTSIDE;
        }
        return shop.isOpen() ? shop.leastHarm(place, what) : STATE;
    }

    public int set(int n) {
        if (n < 1 || n > TOP_COUNT) {
            return OUTSIDE;
        }
        return shop.isOpen() ? shop.cheapest(n) : STATE;
    }

    public long tin(int k, int which) {
        if (k < 0 || k > TOP_DRAWN || which < 0 || which > 1 || !shop.isOpen()) {
            return LOST;
        }
        int all = shop.buttons();
        return Tin.share(all, shop.alikeButtons(), Math.min(k, all), which);
    }

    public int half() {
        return shop.isOpen() ? Tin.fewestForHalf(shop.buttons(), shop.alikeButtons()) : STATE;
    }

    // ---- 4 what looked alike
    // Each of the last four puts other values in place of one alone, asks the READINGS, and puts back what it was.

    public int reading(int t, boolean alike) {
        return shop.hasTube(t) ? readings.add(t, alike) : UNKNOWN;
    }

    public int back(int k) {
        if (k < 0 || k > readings.count) {
            return OUTSIDE;
        }
        readings.count -= k;
        return readings.count;
    }

    public int memories(int what) {
        if (what < 0 || what > 1) {
            return OUTSIDE;
        }
        if (!shop.isOpen()) {
            return STATE;
        }
        int ownRedder = shop.redder;
        int ownLarger = shop.larger;
        int fitting = 0;
        int first = NONE;
        for (int redder = 0; redder <= TOP_SHIFT; redder++) {
            for (int larger = 0; larger <= TOP_SHIFT; larger++) {
                shop.redder = redder;
                shop.larger = larger;
                if (readings.fit(shop)) {
                    first = fitting == 0 ? memory(redder, larger) : first;
                    fitting++;
                }
            }
        }
        shop.redder = ownRedder;
        shop.larger = ownLarger;
        return what == 0 ? fitting : first;
    }

    public int kinds(int t) {
        if (!shop.hasTube(t)) {
            return UNKNOWN;
        }
        Tube tube = shop.tubes[t];
        int own = tube.kind;
        int fitting = 0;
        for (int kind = 0; kind < KIND_COUNT; kind++) {
            tube.kind = kind;
            fitting |= readings.fit(shop) ? 1 << kind : 0;
        }
        tube.kind = own;
        return fitting;
    }

    public int colours(int t) {
        if (!shop.hasTube(t)) {
            return UNKNOWN;
        }
        Tube tube = shop.tubes[t];
        int own = tube.colour;
        int fitting = 0;
        for (int colour = 0; colour <= TOP_COLOUR; colour++) {
            tube.colour = colour;
            fitting |= readings.fit(shop) ? 1 << colour : 0;
        }
        tube.colour = own;
        return fitting;
    }

    public int nears() {
        if (!shop.isOpen()) {
            return STATE;
        }
        int own = shop.near;
        int fitting = 0;
        for (int near = 0; near <= TOP_NEAR; near++) {
            shop.near = near;
            fitting |= readings.fit(shop) ? 1 << near : 0;
        }
        shop.near = own;
        return fitting;
    }

    // ---- 5 sheets, parts

    public int sheet(int k, int lane, int n) {
        fault = 0;
        if (!isSheet(k)) {
            return UNKNOWN;
        }
        if (!isLane(lane) || n > LONGEST_ROW) {
            return OUTSIDE;
        }
        if (n < 0) {
            return faulted(FAULT_SIZE);
        }
        sheets[k].begin(lane, n);
        return 1;
    }

    public int lose(int k) {
        if (!isSheet(k)) {
            return UNKNOWN;
        }
        if (sheets[k].isNothing()) {
            return 0;
        }
        sheets[k].becomeNothing();
        return 1;
    }

    public int put(int k, int i, int v) {
        fault = 0;
        if (!isSheet(k)) {
            return UNKNOWN;
        }
        Sheet row = sheets[k];
        if (row.isNothing()) {
            return faulted(FAULT_NULL);
        }
        if (!row.covers(i, 1)) {
            return faulted(FAULT_INDEX);
        }
        row.write(i, v);
        return 1;
    }

    public long cell(int k, int i, int lane) {
        fault = 0;
        if (!isSheet(k) || !isLane(lane)) {
            return LOST;
        }
        Sheet row = sheets[k];
        fault = row.faultOfTaking(lane, i, 1);
        return fault == 0 ? row.read(i) : LOST;
    }

    public int copy(int k, int i, int other, int j, int n) {
        fault = 0;
        if (!isSheet(k) || !isSheet(other)) {
            return UNKNOWN;
        }
        Sheet from = sheets[k];
        Sheet to = sheets[other];
        if (from.isNothing() || to.isNothing()) {
            return faulted(FAULT_NULL);
        }
        if (from.lane != to.lane) {
            return faulted(FAULT_CAST);
        }
        if (!from.covers(i, n) || !to.covers(j, n)) {
            return faulted(FAULT_INDEX);
        }
        System.arraycopy(from.cells, i, to.cells, j, n);
        return n;
    }

    public int tell(int t) {
        if (!shop.hasTube(t)) {
            return UNKNOWN;
        }
        Tube tube = shop.tubes[t];
        if (tube.kind == KIND_OLD) {
            return oldTelling(tube);
        }
        return tube.kind == KIND_SHADED ? shadedTelling(tube) : tubeTelling(tube);
    }

    public int rattle(int t) {
        if (!shop.hasTube(t)) {
            return UNKNOWN;
        }
        return shop.tubes[t].kind == KIND_OLD ? oldRattling() : lentRattling(t);
    }

    public int as(int t, int kind) {
        fault = 0;
        if (!shop.hasTube(t)) {
            return UNKNOWN;
        }
        if (kind < 0 || kind >= KIND_COUNT) {
            return OUTSIDE;
        }
        // Each kind is one of every kind with a lower number.
        return shop.tubes[t].kind >= kind ? 1 : faulted(FAULT_CAST);
    }

    public int trace() {
        return trace;
    }

    public int fault() {
        return fault;
    }

    public int many(int what) {
        switch (what) {
            case 0: return shop.tubeCount;
            case 1: return shop.buttons();
            case 2: return readings.count;
            case 3: return shop.near;
            default: return OUTSIDE;
        }
    }

    // ---- helpers

    private static boolean isSheet(int k) {
        return k >= 0 && k < SHEET_COUNT;
    }

    private static boolean isLane(int lane) {
        return lane >= 0 && lane < LANE_COUNT;
    }

    private static boolean isPlace(int place) {
        return place >= 0 && place < PLACE_COUNT;
    }

    private static int memory(int redder, int larger) {
        return 10 * redder + larger;
    }

    private static boolean areSigns(Sheet row, int i, int n) {
        int met = 0;
        for (int m = 0; m < n; m++) {
            int sign = row.read(i + m);
            if (sign < 0 || sign >= SIGN_COUNT || (met >> sign & 1) != 0) {
                return false;
            }
            met |= 1 << sign;
        }
        return true;
    }

    private int faulted(int which) {
        fault = which;
        return -10 - which;
    }

    /** What a call that goes by n cells of a SHEET answers if it does not come to them; 0 if it does. */
    private int refusalOfRow(int sheet, int lane, int i, int n, boolean othersInside) {
        fault = 0;
        if (!isSheet(sheet)) {
            return UNKNOWN;
        }
        if (!isLane(lane) || !othersInside) {
            return OUTSIDE;
        }
        int taking = sheets[sheet].faultOfTaking(lane, i, n);
        return taking == 0 ? 0 : faulted(taking);
    }

    private void mark(int body) {
        trace = 31 * trace + body;
    }

    private int tubeTelling(Tube tube) {
        mark(1);
        return tube.pence;
    }

    private int shadedTelling(Tube tube) {
        mark(2);
        return tubeTelling(tube) + 100;
    }

    private int oldTelling(Tube tube) {
        mark(3);
        int shadedPart = shadedTelling(tube);
        return shadedPart + tubeTelling(tube);
    }

    private int lentRattling(int t) {
        mark(4);
        return t;
    }

    private int oldRattling() {
        mark(5);
        return 50;
    }

    /** A row of a LANE, or nothing. Every new row uses the same cells again, so that none has to be made. */
    private static final class Sheet {
        private static final int NO_LANE = -1, LANE_BYTES = 0, LANE_SHORTS = 1;

        private final int[] cells = new int[LONGEST_ROW];
        private int lane = NO_LANE;
        private int length = 0;

        boolean isNothing() {
            return lane == NO_LANE;
        }

        void becomeNothing() {
            lane = NO_LANE;
            length = 0;
        }

        void begin(int newLane, int newLength) {
            Arrays.fill(cells, 0);
            lane = newLane;
            length = newLength;
        }

        boolean covers(int i, int n) {
            // The subtraction cannot wrap, as i is 0 .. length by then; i + n could.
            return i >= 0 && i <= length && n >= 0 && n <= length - i;
        }

        int faultOfTaking(int asLane, int i, int n) {
            if (isNothing()) {
                return FAULT_NULL;
            }
            if (lane != asLane) {
                return FAULT_CAST;
            }
            if (n < 0) {
                return FAULT_SIZE;
            }
            return covers(i, n) ? 0 : FAULT_INDEX;
        }

        int read(int i) {
            return covers(i, 1) ? cells[i] : 0;
        }

        void write(int i, int v) {
            if (covers(i, 1)) {
                cells[i] = lane == LANE_BYTES ? (byte) v : lane == LANE_SHORTS ? (short) v : v;
            }
        }
    }

    /** The form of a TEXT: b and ; stand for themselves, each other letter for a sort of code. */
    private static final class Text {
        private static final int NO_FAULT = -1;
        private static final String HEAD_FORM = "bcdhddddddd", TUBE_FORM = ";kcdhdd";
        private static final int HEAD_CODES = 11, TUBE_CODES = 7;
        private static final int MOST_CODES = HEAD_CODES + MOST_TUBES * TUBE_CODES;

        static int firstFault(Sheet row, int i, int n) {
            for (int place = 0; place < n; place++) {
                if (!goesOn(place, row.read(i + place))) {
                    return place;
                }
            }
            return isWhole(n) ? NO_FAULT : n;
        }

        private static boolean isWhole(int n) {
            return n >= HEAD_CODES + TUBE_CODES && (n - HEAD_CODES) % TUBE_CODES == 0;
        }

        private static boolean goesOn(int place, int code) {
            if (place < 0 || place >= MOST_CODES) {
                return false;
            }
            if (place < HEAD_CODES) {
                return isOfSort(HEAD_FORM.charAt(place), code);
            }
            return isOfSort(TUBE_FORM.charAt((place - HEAD_CODES) % TUBE_CODES), code);
        }

        private static boolean isOfSort(char sort, int code) {
            if (sort == 'c') {
                return code >= '0' && code <= '7';
            }
            if (sort == 'd') {
                return code >= '0' && code <= '9';
            }
            if (sort == 'h') {
                return code == '2' || code == '4';
            }
            if (sort == 'k') {
                return code == 't' || code == 's' || code == 'o';
            }
            return code == sort;
        }
    }

    private static final class Tube {
        private int kind, colour, size, holes, count, pence;

        void fillFrom(Sheet row, int at) {
            int letter = row.read(at + 1);
            kind = letter == 'o' ? KIND_OLD : letter == 's' ? KIND_SHADED : KIND_TUBE;
            colour = row.read(at + 2) - '0';
            size = row.read(at + 3) - '0';
            holes = row.read(at + 4) - '0';
            count = row.read(at + 5) - '0';
            pence = row.read(at + 6) - '0';
        }

        int looksColour() {
            return kind == KIND_SHADED ? Math.min(TOP_COLOUR, colour + 1) : colour;
        }

        int looksSize() {
            return kind == KIND_OLD ? Math.max(0, size - 1) : size;
        }

        int farFrom(int otherColour, int otherSize, int otherHoles) {
            int apart = Math.abs(looksColour() - otherColour) + Math.abs(looksSize() - otherSize);
            return holes == otherHoles ? apart : apart + 2;
        }

        int part(int what) {
            switch (what) {
                case 0: return kind;
                case 1: return colour;
                case 2: return size;
                case 3: return holes;
                case 4: return count;
                case 5: return pence;
                case 6: return looksColour();
                default: return looksSize();
            }
        }
    }

    /** The WANTED button, the coat, how it is REMEMBERED, and the TUBES; a SHOP has 1 or more, so 0 is no SHOP. */
    private static final class Shop {
        private final Tube[] tubes = new Tube[MOST_TUBES];
        private final int[] seen = new int[PLACE_COUNT];
        private int tubeCount = 0;
        private int colour, size, holes, sewing;
        private int redder, larger, near;

        private Shop() {
            for (int t = 0; t < MOST_TUBES; t++) {
                tubes[t] = new Tube();
            }
        }

        boolean isOpen() {
            return tubeCount > 0;
        }

        boolean hasTube(int t) {
            return t >= 0 && t < tubeCount;
        }

        boolean hasAllTubes(Sheet row, int i, int n) {
            for (int m = 0; m < n; m++) {
                if (!hasTube(row.read(i + m))) {
                    return false;
                }
            }
            return true;
        }

        /** Takes a TEXT in which no fault was found. */
        void stockFrom(Sheet row, int i, int n) {
            colour = row.read(i + 1) - '0';
            size = row.read(i + 2) - '0';
            holes = row.read(i + 3) - '0';
            for (int place = 0; place < PLACE_COUNT; place++) {
                seen[place] = row.read(i + 4 + place) - '0';
            }
            sewing = row.read(i + 10) - '0';
            tubeCount = Math.min(MOST_TUBES, (n - Text.HEAD_CODES) / Text.TUBE_CODES);
            for (int t = 0; t < tubeCount; t++) {
                tubes[t].fillFrom(row, i + Text.HEAD_CODES + t * Text.TUBE_CODES);
            }
            redder = 0;
            larger = 0;
            near = 0;
        }

        int wantedPart(int what) {
            switch (what) {
                case 0: return colour;
                case 1: return size;
                case 2: return holes;
                default: return sewing;
            }
        }

        int rememberedColour() {
            return Math.min(TOP_COLOUR, colour + redder);
        }

        int rememberedSize() {
            return Math.min(TOP_SIZE, size + larger);
        }

        int farFromRemembered(int t) {
            return hasTube(t) ? tubes[t].farFrom(rememberedColour(), rememberedSize(), holes) : 0;
        }

        boolean isAlike(int t) {
            return farFromRemembered(t) <= near;
        }

        int searched(Sheet row, int i, int n, int what) {
            int at = 0;
            int seconds = 0;
            int looked = 0;
            int found = NONE;
            for (int m = 0; m < n && found == NONE; m++) {
                int next = row.read(i + m);
                seconds += Math.abs(next - at) + 1;
                looked++;
                at = next;
                found = isAlike(next) ? next : NONE;
            }
            return what == 0 ? seconds : what == 1 ? found : looked;
        }

        private int allAsSet() {
            return (1 << tubeCount) - 1;
        }

        private boolean signFits(Tube tube, int sign) {
            switch (sign) {
                case 0: return tube.looksColour() == rememberedColour();
                case 1: return tube.looksSize() == rememberedSize();
                default: return tube.holes == holes;
            }
        }

        private int sifted(int left, int sign) {
            int kept = 0;
            for (int t = 0; t < tubeCount; t++) {
                if ((left >> t & 1) != 0 && signFits(tubes[t], sign)) {
                    kept |= 1 << t;
                }
            }
            return kept;
        }

        int sieved(int[] signs, int from, int n, int what) {
            int left = allAsSet();
            int seconds = 0;
            for (int m = 0; m < n && from >= 0 && from + m < signs.length; m++) {
                seconds += Integer.bitCount(left);
                left = sifted(left, signs[from + m]);
            }
            return what == 0 ? seconds : left;
        }

        int secondsBySigns(int order) {
            return sieved(SIGN_ORDERS, order, SIGN_COUNT, 0);
        }

        private int harm(Tube tube, int place, int missing) {
            int moving = place == missing ? 0 : sewing;
            return tube.farFrom(colour, size, holes) * seen[place] + tube.pence + moving;
        }

        int leastHarm(int missing, int what) {
            int least = NONE;
            int bestTube = NONE;
            int bestPlace = NONE;
            for (int t = 0; t < tubeCount; t++) {
                for (int place = 0; place < PLACE_COUNT && tubes[t].count > 0; place++) {
                    int harm = harm(tubes[t], place, missing);
                    if (least == NONE || harm < least) {
                        least = harm;
                        bestTube = t;
                        bestPlace = place;
                    }
                }
            }
            return what == 0 ? least : what == 1 ? bestTube : bestPlace;
        }

        int cheapest(int n) {
            int least = NONE;
            for (int t = 0; t < tubeCount; t++) {
                int price = n * tubes[t].pence;
                if (tubes[t].count >= n && (least == NONE || price < least)) {
                    least = price;
                }
            }
            return least;
        }

        int buttons() {
            int all = 0;
            for (int t = 0; t < tubeCount; t++) {
                all += tubes[t].count;
            }
            return all;
        }

        int alikeButtons() {
            int alike = 0;
            for (int t = 0; t < tubeCount; t++) {
                alike += isAlike(t) ? tubes[t].count : 0;
            }
            return alike;
        }
    }

    /** Draws from a tin of at most 54 buttons: every number of ways, even its double, is far inside a long. */
    private static final class Tin {
        static long share(int all, int alike, int drawn, int which) {
            long ways = waysToDraw(all, drawn);
            long hits = ways - waysToDraw(all - alike, drawn);
            long common = Math.max(1, commonDivisor(ways, hits));
            return which == 0 ? hits / common : ways / common;
        }

        static int fewestForHalf(int all, int alike) {
            for (int drawn = 0; drawn <= all; drawn++) {
                if (2 * waysToDraw(all - alike, drawn) <= waysToDraw(all, drawn)) {
                    return drawn;
                }
            }
            return NONE;
        }

        private static long waysToDraw(int from, int drawn) {
            if (drawn > from) {
                return 0;
            }
            long ways = 1;
            for (int m = 1; m <= drawn; m++) {
                ways = ways * (from - drawn + m) / m;
            }
            return ways;
        }

        private static long commonDivisor(long a, long b) {
            // Behind every two steps the larger number is less than half of it: 128 are more than a long needs.
            for (int step = 0; step < 128 && b != 0; step++) {
                long rest = a % b;
                a = b;
                b = rest;
            }
            return a;
        }
    }

    private static final class Readings {
        private final int[] tubes = new int[MOST_READINGS];
        private final boolean[] alikes = new boolean[MOST_READINGS];
        private int count = 0;

        /** Answers how many there were ahead of it, which is its number, or FULL. */
        int add(int t, boolean alike) {
            if (count >= MOST_READINGS) {
                return FULL;
            }
            int number = count;
            tubes[number] = t;
            alikes[number] = alike;
            count = number + 1;
            return number;
        }

        boolean fit(Shop shop) {
            for (int m = 0; m < count; m++) {
                if (shop.isAlike(tubes[m]) != alikes[m]) {
                    return false;
                }
            }
            return true;
        }
    }
}
