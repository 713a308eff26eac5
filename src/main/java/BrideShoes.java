import java.util.Arrays;

/** Shoes for brides: what ../shared/DOC.md promises; README.md tells how to use it. */
public final class BrideShoes {
    public static final int BAD = -1, NOT = -2, FULL = -3, NONE = -4, NULL = -11, CAST = -12, INDEX = -13, SIZE = -14;

    private static final int MOST_BRIDES = 7, MOST_SHOES = 16, MOST_HOUR = 11, LEAST_SIZE = 20, MOST_FOOT = 60;
    private static final int SHEETS = 4, LANES = 3, MOST_ITEMS = 100, MOST_TAPE = 120;
    private static final int LIMP_REFUSED = 100000;
    private static final int MOST_CHANGED = 6, LEAST_RANKED = 2, MOST_RANKED = 7;

    // What a row of numbers holds, by its places: of a bride, of a shoe, of the settings.
    private static final int LEFT = 0, RIGHT = 1, SWELL = 2, HOUR = 3;
    private static final int SIDE = 0, LENGTH = 1, KIND = 2, LOST = 3;
    private static final int LOOSE = 0, OUT = 1;

    private static final int[] BRIDE_LEAST = {20, 20, 0, 0};
    private static final int[] BRIDE_MOST = {60, 60, 4, 11};
    private static final int[] SHOE_LEAST = {0, 20, 0};
    private static final int[] SHOE_MOST = {1, 70, 3};
    private static final int MOST_SETTING = 6;

    // By kind: PLAIN, GLASS, GIVING, PATCHED.
    private static final int GLASS = 1;
    private static final int[] GIVES = {0, 0, 1, 2};
    private static final int[] LET_OUT = {6, 0, 6, 1};

    private final Party party = new Party();
    private final Party kept = new Party();
    private boolean isKept = false;
    private final Tape tape = new Tape();
    private final Ways ways = new Ways();
    private final Trials trials = new Trials();
    private final Mixes mixes = new Mixes();
    private final Ranks ranks = new Ranks();
    private final Sheet[] sheets = new Sheet[SHEETS];

    public BrideShoes() {
        for (int i = 0; i < SHEETS; i++) {
            sheets[i] = new Sheet();
        }
    }

    // ---- 1 brides, shoes

    public int bride(int left, int right, int swell, int hour) {
        if (!isOfBride(LEFT, left) || !isOfBride(RIGHT, right)) {
            return BAD;
        }
        if (!isOfBride(SWELL, swell) || !isOfBride(HOUR, hour)) {
            return BAD;
        }
        if (party.brideCount >= MOST_BRIDES) {
            return FULL;
        }
        int[] row = party.brideRows[party.brideCount];
        row[LEFT] = left;
        row[RIGHT] = right;
        row[SWELL] = swell;
        row[HOUR] = hour;
        return party.brideCount++;
    }

    public int make(int bride, int what, int v) {
        if (!isBride(bride) || !isFrom(what, LEFT, HOUR) || !isOfBride(what, v)) {
            return BAD;
        }
        int was = party.brideRows[bride][what];
        party.brideRows[bride][what] = v;
        return was;
    }

    public int shoe(int side, int size, int kind) {
        if (!isOfShoe(SIDE, side) || !isOfShoe(LENGTH, size) || !isOfShoe(KIND, kind)) {
            return BAD;
        }
        if (party.shoeCount >= MOST_SHOES) {
            return FULL;
        }
        int[] row = party.shoeRows[party.shoeCount];
        row[SIDE] = side;
        row[LENGTH] = size;
        row[KIND] = kind;
        row[LOST] = 0;
        return party.shoeCount++;
    }

    public int told(int shoe, int what) {
        if (!isShoe(shoe) || !isFrom(what, SIDE, LOST)) {
            return BAD;
        }
        return party.shoeRows[shoe][what];
    }

    public int lose(int shoe, boolean is) {
        if (!isShoe(shoe)) {
            return BAD;
        }
        int was = party.shoeRows[shoe][LOST];
        party.shoeRows[shoe][LOST] = is ? 1 : 0;
        return was;
    }

    public int set(int what, int v) {
        if (!isFrom(what, LOOSE, OUT) || !isFrom(v, 0, MOST_SETTING)) {
            return BAD;
        }
        int was = party.settings[what];
        party.settings[what] = v;
        return was;
    }

    public int foot(int bride, int side, int hour) {
        if (!isBride(bride) || !isSide(side) || !isHour(hour)) {
            return BAD;
        }
        return party.footAt(bride, side, hour);
    }

    public int asked(int shoe, int bride, int hour) {
        if (!isShoe(shoe) || !isBride(bride) || !isHour(hour)) {
            return BAD;
        }
        return party.leastOut(shoe, bride, hour);
    }

    public int whose(int shoe, int hour) {
        if (!isShoe(shoe) || !isHour(hour)) {
            return BAD;
        }
        int set = 0;
        for (int b = 0; b < party.brideCount; b++) {
            if (party.leastOut(shoe, b, hour) != NONE) {
                set |= 1 << b;
            }
        }
        return set;
    }

    public int type(long w, int n) {
        if (!isFrom(n, 1, 8) || !Tape.isTypable(w, n)) {
            return BAD;
        }
        if (tape.length + n > MOST_TAPE) {
            return FULL;
        }
        tape.append(w, n);
        return tape.length;
    }

    public int brides() {
        int read = tape.readBrides();
        tape.length = 0;
        if (read > 0) {
            party.takeBrides(tape.rows, read);
        }
        return read;
    }

    public int heap() {
        int read = tape.readHeap();
        tape.length = 0;
        if (read > 0) {
            party.takeShoes(tape.rows, read);
        }
        return read;
    }

    public int count(int what) {
        switch (what) {
            case 0: return party.brideCount;
            case 1: return party.shoeCount;
            case 2: return party.shoesThere(0);
            case 3: return party.shoesThere(1);
            case 4: return party.shoeCount - party.shoesThere(0) - party.shoesThere(1);
            default: return BAD;
        }
    }

    // ---- 2 shoes for all

    public int shod(int side, int bride) {
        if (!isSide(side) || (bride != -1 && !isBride(bride))) {
            return BAD;
        }
        if (!ways.findForAll(party, side)) {
            return NONE;
        }
        return bride == -1 ? ways.askedTogether : ways.shoeOf[bride];
    }

    public int most(int side) {
        return isSide(side) ? ways.findMost(party, side) : BAD;
    }

    public int chain(int shoe) {
        if (!isShoe(shoe)) {
            return BAD;
        }
        if (party.shoeRows[shoe][LOST] != 0 || !ways.findForAll(party, party.shoeRows[shoe][SIDE])) {
            return NOT;
        }
        return ways.isWorn(party, shoe) ? ways.findChain(party, shoe) : NOT;
    }

    public int limps(int bride, int shoe, int hour) {
        if (!isBride(bride) || !isShoe(shoe) || !isHour(hour)) {
            return BAD - LIMP_REFUSED;
        }
        return party.limpOf(bride, shoe, hour);
    }

    // ---- 3 tries, ranks

    public int tries(int side, int a, int b, int what) {
        if (!isSide(side) || !isFrom(a, LEAST_SIZE, MOST_FOOT) || !isFrom(b, a, MOST_FOOT) || !isFrom(what, 0, 1)) {
            return BAD;
        }
        trials.findFewest(party, side, a, b);
        return what == 0 ? trials.fewestTries(a, b) : trials.firstTried(a, b);
    }

    public int image() {
        kept.takeAll(party);
        isKept = true;
        return 1;
    }

    public int restore() {
        if (!isKept) {
            return NONE;
        }
        party.takeAll(kept);
        return 1;
    }

    // ---- 4 sheets

    public int changed(int side, int sheet, int lane, int from, int n, int k) {
        if (!isSide(side) || !isSheet(sheet) || !isLane(lane) || !isFrom(n, 1, MOST_CHANGED)) {
            return BAD;
        }
        if (n > party.brideCount || !isFrom(k, -1, n - 1)) {
            return BAD;
        }
        if (!ways.findForAll(party, side)) {
            return NOT;
        }
        int found = sheets[sheet].refusal(lane, from, n);
        if (found != 0) {
            return found;
        }
        mixes.find(party, ways.shoeOf, sheets[sheet].items, from, n);
        if (mixes.howMany() == 0) {
            return NONE;
        }
        return k == -1 ? mixes.howMany() : mixes.first[k];
    }

    public int firm(int sheet, int lane, int from, int n, int bride) {
        if (!isSheet(sheet) || !isLane(lane) || !isRanked(n) || !isFrom(bride, 0, n - 1)) {
            return BAD;
        }
        int found = sheets[sheet].refusal(lane, from, 2 * n * n);
        if (found != 0) {
            return found;
        }
        if (!ranks.read(sheets[sheet].items, from, n)) {
            return NOT;
        }
        ranks.pairByBrides();
        return ranks.groomOf[bride];
    }

    public int judged(int sheet, int lane, int from, int n, int pairs) {
        if (!isSheet(sheet) || !isLane(lane) || !isRanked(n) || !isSheet(pairs)) {
            return BAD;
        }
        int found = sheets[sheet].refusal(lane, from, 2 * n * n);
        if (found == 0) {
            found = sheets[pairs].refusal(lane, 0, n);
        }
        if (found != 0) {
            return found;
        }
        if (!ranks.read(sheets[sheet].items, from, n) || !ranks.readPairs(sheets[pairs].items)) {
            return NOT;
        }
        return ranks.firstToLeave();
    }

    public int sheet(int sheet, int lane, int n) {
        if (!isSheet(sheet) || !isLane(lane) || n > MOST_ITEMS) {
            return BAD;
        }
        if (n < 0) {
            return SIZE;
        }
        sheets[sheet].renew(lane, n);
        return n;
    }

    public int drop(int sheet) {
        if (!isSheet(sheet)) {
            return BAD;
        }
        if (!sheets[sheet].isThere) {
            return NULL;
        }
        sheets[sheet].isThere = false;
        return sheets[sheet].length;
    }

    public int item(int sheet, int lane, int i, int v) {
        if (!isSheet(sheet) || !isLane(lane)) {
            return BAD;
        }
        int found = sheets[sheet].refusal(lane, i, 1);
        if (found != 0) {
            return found;
        }
        sheets[sheet].items[i] = Sheet.cut(lane, v);
        return 1;
    }

    public int copy(int from, int i, int to, int j, int n) {
        if (!isSheet(from) || !isSheet(to)) {
            return BAD;
        }
        if (!sheets[from].isThere || !sheets[to].isThere) {
            return NULL;
        }
        int found = sheets[from].refusal(sheets[to].lane, i, n);
        if (found == 0) {
            found = sheets[to].refusal(sheets[to].lane, j, n);
        }
        if (found != 0) {
            return found;
        }
        System.arraycopy(sheets[from].items, i, sheets[to].items, j, n);
        return n;
    }

    // ---- what a number may be

    private static boolean isFrom(int v, int least, int most) {
        return v >= least && v <= most;
    }

    private static boolean isOfBride(int what, int v) {
        return isFrom(v, BRIDE_LEAST[what], BRIDE_MOST[what]);
    }

    private static boolean isOfShoe(int what, int v) {
        return isFrom(v, SHOE_LEAST[what], SHOE_MOST[what]);
    }

    private static boolean isSide(int side) {
        return isFrom(side, 0, 1);
    }

    private static boolean isHour(int hour) {
        return isFrom(hour, 0, MOST_HOUR);
    }

    private static boolean isSheet(int sheet) {
        return isFrom(sheet, 0, SHEETS - 1);
    }

    private static boolean isLane(int lane) {
        return isFrom(lane, 0, LANES - 1);
    }

    private static boolean isRanked(int n) {
        return isFrom(n, LEAST_RANKED, MOST_RANKED);
    }

    private boolean isBride(int bride) {
        return isFrom(bride, 0, party.brideCount - 1);
    }

    private boolean isShoe(int shoe) {
        return isFrom(shoe, 0, party.shoeCount - 1);
    }

    /** Brides, shoes and settings: just what an image keeps, so that one copy is the whole image. */
    private static final class Party {
        final int[][] brideRows = new int[MOST_BRIDES][4];
        final int[][] shoeRows = new int[MOST_SHOES][4];
        final int[] settings = {2, 3};
        int brideCount = 0;
        int shoeCount = 0;

        void takeBrides(int[][] rows, int n) {
            for (int i = 0; i < n; i++) {
                System.arraycopy(rows[i], 0, brideRows[i], 0, 4);
            }
            brideCount = n;
        }

        void takeShoes(int[][] rows, int n) {
            for (int i = 0; i < n; i++) {
                System.arraycopy(rows[i], 0, shoeRows[i], 0, 4);
            }
            shoeCount = n;
        }

        void takeAll(Party other) {
            takeBrides(other.brideRows, other.brideCount);
            takeShoes(other.shoeRows, other.shoeCount);
            System.arraycopy(other.settings, 0, settings, 0, 2);
        }

        int footAt(int bride, int side, int hour) {
            int[] row = brideRows[bride];
            return row[side == 0 ? LEFT : RIGHT] + hour * row[SWELL] / 4;
        }

        int looseFor(int kind) {
            return kind == GLASS ? 0 : settings[LOOSE];
        }

        /** By how much a shoe is let out for a foot, at least; NONE if it does not go. */
        int leastOut(int shoe, int bride, int hour) {
            int[] row = shoeRows[shoe];
            int size = row[LENGTH];
            int kind = row[KIND];
            int at = footAt(bride, row[SIDE], hour);
            int k = Math.max(0, at - GIVES[kind] - size);
            boolean goes = k <= Math.min(settings[OUT], LET_OUT[kind]) && size + k <= at + looseFor(kind);
            return goes ? k : NONE;
        }

        int limpOf(int bride, int shoe, int hour) {
            int[] row = shoeRows[shoe];
            int size = row[LENGTH];
            int at = footAt(bride, row[SIDE], hour);
            int most = at + looseFor(row[KIND]);
            int least = at - GIVES[row[KIND]];
            if (size > most) {
                return size - most;
            }
            return size < least ? size - least : 0;
        }

        boolean isThere(int shoe, int side) {
            return shoeRows[shoe][SIDE] == side && shoeRows[shoe][LOST] == 0;
        }

        int shoesThere(int side) {
            int there = 0;
            for (int s = 0; s < shoeCount; s++) {
                if (isThere(s, side)) {
                    there++;
                }
            }
            return there;
        }
    }

    /** Bytes that were typed, and the reading of them; where a reading stops, it stops at its fault. */
    private static final class Tape {
        static final int FAULT = -20, END = 0, ENOUGH = 1000;
        final int[] bytes = new int[MOST_TAPE];
        // A text is read to its end before it counts, as a fault leaves what was told.
        final int[][] rows = new int[MOST_SHOES][4];
        int length = 0;
        int place = 0;

        static boolean isTypable(long w, int n) {
            for (int i = 0; i < n; i++) {
                if (!isFrom((int) (w >>> (8 * i)) & 255, 32, 126)) {
                    return false;
                }
            }
            return true;
        }

        void append(long w, int n) {
            for (int i = n - 1; i >= 0; i--) {
                bytes[length] = (int) (w >>> (8 * i)) & 255;
                length++;
            }
        }

        int readBrides() {
            return read(false, MOST_BRIDES);
        }

        int readHeap() {
            return read(true, MOST_SHOES);
        }

        int read(boolean isHeap, int most) {
            place = 0;
            for (int i = 0; i < most; i++) {
                boolean isRead = isHeap ? readShoe(rows[i]) : readBride(rows[i]);
                if (isRead && next() == END) {
                    return i + 1;
                }
                // Behind the last one that there may be not even a , can stand.
                if (!isRead || i == most - 1 || !isPassed(',')) {
                    break;
                }
            }
            return FAULT - place;
        }

        boolean readBride(int[] row) {
            row[SWELL] = 0;
            row[HOUR] = 0;
            if (!readNumber(row, LEFT, BRIDE_LEAST[LEFT], BRIDE_MOST[LEFT]) || !isPassed('/')) {
                return false;
            }
            if (!readNumber(row, RIGHT, BRIDE_LEAST[RIGHT], BRIDE_MOST[RIGHT])) {
                return false;
            }
            if (isPassed('s') && !readSwell(row)) {
                return false;
            }
            return !isPassed('h') || readNumber(row, HOUR, BRIDE_LEAST[HOUR], BRIDE_MOST[HOUR]);
        }

        /** SWELL is one digit, not a number: what follows it is a fault of its own. */
        boolean readSwell(int[] row) {
            int digit = next() - '0';
            if (!isOfBride(SWELL, digit)) {
                return false;
            }
            row[SWELL] = digit;
            place++;
            return true;
        }

        boolean readShoe(int[] row) {
            row[KIND] = 0;
            row[LOST] = 0;
            row[SIDE] = next() == 'l' ? 0 : 1;
            if (!isPassed('l') && !isPassed('r')) {
                return false;
            }
            if (!readNumber(row, LENGTH, SHOE_LEAST[LENGTH], SHOE_MOST[LENGTH])) {
                return false;
            }
            if (isPassed('g')) {
                row[KIND] = 1;
            } else if (isPassed('v')) {
                row[KIND] = 2;
            } else if (isPassed('p')) {
                row[KIND] = 3;
            }
            return true;
        }

        /** The next byte that is no blank, at which the reading stands then. */
        int next() {
            while (place < length && bytes[place] == ' ') {
                place++;
            }
            return place < length ? bytes[place] : END;
        }

        boolean isPassed(char sign) {
            if (next() != sign) {
                return false;
            }
            place++;
            return true;
        }

        /** A number that may not be leaves the reading at its first byte, which is its fault. */
        boolean readNumber(int[] row, int what, int least, int most) {
            next();
            int start = place;
            int v = 0;
            while (place < length && isFrom(bytes[place], '0', '9')) {
                v = Math.min(ENOUGH, 10 * v + bytes[place] - '0');
                place++;
            }
            if (place == start || !isFrom(v, least, most)) {
                place = start;
                return false;
            }
            row[what] = v;
            return true;
        }
    }

    /** Ways to put shoes on one foot of the brides, each at the hour at which she is wed. */
    private static final class Ways {
        static final long NO_WAY = -1;
        // Behind what is asked a price holds the row of shoes, four bits each, bride 0's the highest:
        // so the least price of all is the first row of the least asked.
        static final int SHOE_BITS = 4, ROW_BITS = SHOE_BITS * MOST_BRIDES, SHOE_MASK = 15;
        final long[][] price = new long[MOST_SHOES][MOST_BRIDES];
        // By a set of brides: the least price by which just these have a shoe.
        final long[] least = new long[1 << MOST_BRIDES];
        final int[] shoeOf = new int[MOST_BRIDES];
        int askedTogether = 0;

        boolean findForAll(Party party, int side) {
            priceAsked(party, side);
            addShoes(party);
            long best = least[(1 << party.brideCount) - 1];
            if (best == NO_WAY) {
                return false;
            }
            askedTogether = (int) (best >>> ROW_BITS);
            for (int b = 0; b < party.brideCount; b++) {
                shoeOf[b] = (int) (best >>> shiftOf(b)) & SHOE_MASK;
            }
            return true;
        }

        int findMost(Party party, int side) {
            priceAsked(party, side);
            addShoes(party);
            int most = 0;
            for (int set = 0; set < 1 << party.brideCount; set++) {
                if (least[set] != NO_WAY) {
                    most = Math.max(most, Integer.bitCount(set));
                }
            }
            return most;
        }

        /** After findForAll alone, whose prices tell which shoes go on whom. */
        int findChain(Party party, int lost) {
            for (int s = 0; s < party.shoeCount; s++) {
                for (int b = 0; b < party.brideCount; b++) {
                    if (s == lost) {
                        price[s][b] = NO_WAY;
                    } else if (price[s][b] != NO_WAY) {
                        price[s][b] = shoeOf[b] == s ? 0 : 1;
                    }
                }
            }
            addShoes(party);
            long best = least[(1 << party.brideCount) - 1];
            return best == NO_WAY ? NONE : (int) best;
        }

        boolean isWorn(Party party, int shoe) {
            for (int b = 0; b < party.brideCount; b++) {
                if (shoeOf[b] == shoe) {
                    return true;
                }
            }
            return false;
        }

        static int shiftOf(int bride) {
            return SHOE_BITS * (MOST_BRIDES - 1 - bride);
        }

        void priceAsked(Party party, int side) {
            for (int s = 0; s < party.shoeCount; s++) {
                for (int b = 0; b < party.brideCount; b++) {
                    int k = party.isThere(s, side) ? party.leastOut(s, b, party.brideRows[b][HOUR]) : NONE;
                    price[s][b] = k == NONE ? NO_WAY : ((long) k << ROW_BITS) + ((long) s << shiftOf(b));
                }
            }
        }

        void addShoes(Party party) {
            Arrays.fill(least, NO_WAY);
            least[0] = 0;
            for (int s = 0; s < party.shoeCount; s++) {
                addShoe(price[s], party.brideCount);
            }
        }

        /** From the largest set down, so that the sets it builds upon are still without this shoe. */
        void addShoe(long[] prices, int n) {
            for (int set = (1 << n) - 1; set > 0; set--) {
                for (int b = 0; b < n; b++) {
                    long before = (set >> b & 1) == 1 ? least[set ^ 1 << b] : NO_WAY;
                    if (before == NO_WAY || prices[b] == NO_WAY) {
                        continue;
                    }
                    if (least[set] == NO_WAY || before + prices[b] < least[set]) {
                        least[set] = before + prices[b];
                    }
                }
            }
        }
    }

    /** Tries by which a foot is known: the fewest, by the range of sizes that are left. */
    private static final class Trials {
        static final int SIZES = MOST_FOOT - LEAST_SIZE + 1, NEVER = 100;
        // By the first size of a range and the one behind its last, so that empty ranges have a place.
        final int[][] fewest = new int[SIZES + 1][SIZES + 1];
        // The sizes of shoes that are there, as a set.
        long canTry = 0;

        void findFewest(Party party, int side, int a, int b) {
            canTry = 0;
            for (int s = 0; s < party.shoeCount; s++) {
                if (party.isThere(s, side)) {
                    canTry |= 1L << (party.shoeRows[s][LENGTH] - LEAST_SIZE);
                }
            }
            int start = a - LEAST_SIZE;
            int end = b - LEAST_SIZE + 1;
            for (int width = 0; width <= end - start; width++) {
                for (int from = start; from + width <= end; from++) {
                    fewest[from][from + width] = width < 2 ? 0 : fewestOf(from, from + width);
                }
            }
        }

        int fewestOf(int from, int end) {
            int best = NEVER;
            for (int size = from; size < end; size++) {
                best = Math.min(best, fewestBy(size, from, end));
            }
            return best;
        }

        int fewestBy(int size, int from, int end) {
            if ((canTry >> size & 1) == 0) {
                return NEVER;
            }
            return Math.min(NEVER, 1 + Math.max(fewest[from][size], fewest[size + 1][end]));
        }

        int fewestTries(int a, int b) {
            int best = fewest[a - LEAST_SIZE][b - LEAST_SIZE + 1];
            return best == NEVER ? NONE : best;
        }

        int firstTried(int a, int b) {
            int start = a - LEAST_SIZE;
            int end = b - LEAST_SIZE + 1;
            int best = fewest[start][end];
            if (best == 0 || best == NEVER) {
                return NONE;
            }
            for (int size = start; size < end; size++) {
                if (fewestBy(size, start, end) == best) {
                    return size + LEAST_SIZE;
                }
            }
            return NONE;
        }
    }

    /** Rows by which the first brides had one another's shoes, told by who limped by how much. */
    private static final class Mixes {
        // By bride: the brides whose shoe she may have had, as a set.
        final int[] mayHave = new int[MOST_CHANGED];
        // By the set of those whose shoes are had: how many ways the later brides have the others.
        final int[] rowsFrom = new int[1 << MOST_CHANGED];
        final int[] first = new int[MOST_CHANGED];

        void find(Party party, int[] shoeOf, int[] limped, int from, int n) {
            for (int b = 0; b < n; b++) {
                mayHave[b] = 0;
                for (int other = 0; other < n; other++) {
                    if (party.limpOf(b, shoeOf[other], party.brideRows[b][HOUR]) == limped[from + b]) {
                        mayHave[b] |= 1 << other;
                    }
                }
            }
            countRows(n);
            takeFirst(n);
        }

        int howMany() {
            return rowsFrom[0];
        }

        void countRows(int n) {
            int all = (1 << n) - 1;
            rowsFrom[all] = 1;
            for (int had = all - 1; had >= 0; had--) {
                int may = mayHave[Integer.bitCount(had)] & ~had;
                rowsFrom[had] = 0;
                for (int other = 0; other < n; other++) {
                    if ((may >> other & 1) == 1) {
                        rowsFrom[had] += rowsFrom[had | 1 << other];
                    }
                }
            }
        }

        void takeFirst(int n) {
            int had = 0;
            for (int b = 0; b < n; b++) {
                first[b] = firstFor(mayHave[b] & ~had, had, n);
                had |= 1 << first[b];
            }
        }

        int firstFor(int may, int had, int n) {
            for (int other = 0; other < n; other++) {
                if ((may >> other & 1) == 1 && rowsFrom[had | 1 << other] > 0) {
                    return other;
                }
            }
            return 0;
        }
    }

    /** How brides and grooms like one another, and pairs of them. */
    private static final class Ranks {
        int n = 0;
        // Rows of brides, then of grooms: whom they like, the best first; and the place of each in that row.
        final int[][] liked = new int[2 * MOST_RANKED][MOST_RANKED];
        final int[][] placeOf = new int[2 * MOST_RANKED][MOST_RANKED];
        final int[] groomOf = new int[MOST_RANKED];
        final int[] brideOf = new int[MOST_RANKED];
        final int[] asks = new int[MOST_RANKED];

        boolean read(int[] items, int from, int count) {
            n = count;
            for (int r = 0; r < 2 * n; r++) {
                if (!readRow(items, from + r * n, liked[r], placeOf[r])) {
                    return false;
                }
            }
            return true;
        }

        boolean readPairs(int[] items) {
            return readRow(items, 0, groomOf, brideOf);
        }

        /** A row of 0 .. n - 1, each once, and where each of them stands. */
        boolean readRow(int[] items, int from, int[] row, int[] places) {
            int seen = 0;
            for (int i = 0; i < n; i++) {
                int v = items[from + i];
                if (!isFrom(v, 0, n - 1) || (seen >> v & 1) == 1) {
                    return false;
                }
                seen |= 1 << v;
                row[i] = v;
                places[v] = i;
            }
            return true;
        }

        /** Brides ask, best liked first, grooms keep whom they like best: that is the brides' best. */
        void pairByBrides() {
            Arrays.fill(groomOf, -1);
            Arrays.fill(brideOf, -1);
            Arrays.fill(asks, 0);
            for (int asked = 0; asked < n * n; asked++) {
                int bride = firstAlone();
                if (bride < 0 || asks[bride] >= n) {
                    return;
                }
                askNext(bride);
            }
        }

        int firstAlone() {
            for (int b = 0; b < n; b++) {
                if (groomOf[b] < 0) {
                    return b;
                }
            }
            return -1;
        }

        void askNext(int bride) {
            int groom = liked[bride][asks[bride]];
            asks[bride]++;
            int rival = brideOf[groom];
            if (rival >= 0 && !groomLikesMore(groom, bride, rival)) {
                return;
            }
            if (rival >= 0) {
                groomOf[rival] = -1;
            }
            brideOf[groom] = bride;
            groomOf[bride] = groom;
        }

        boolean groomLikesMore(int groom, int bride, int other) {
            return placeOf[n + groom][bride] < placeOf[n + groom][other];
        }

        boolean wouldLeave(int bride, int groom) {
            return placeOf[bride][groom] < placeOf[bride][groomOf[bride]]
                && groomLikesMore(groom, bride, brideOf[groom]);
        }

        int firstToLeave() {
            for (int b = 0; b < n; b++) {
                for (int g = 0; g < n; g++) {
                    if (wouldLeave(b, g)) {
                        return 10 * b + g;
                    }
                }
            }
            return NONE;
        }
    }

    /** A sheet: nothing, or a row of a lane. */
    private static final class Sheet {
        final int[] items = new int[MOST_ITEMS];
        boolean isThere = false;
        int lane = 0;
        int length = 0;

        void renew(int newLane, int n) {
            Arrays.fill(items, 0);
            isThere = true;
            lane = newLane;
            length = n;
        }

        /** What is found when n items from one on are taken as of a lane: NULL, CAST, INDEX or 0. */
        int refusal(int asLane, int from, int n) {
            if (!isThere) {
                return NULL;
            }
            if (lane != asLane) {
                return CAST;
            }
            return from < 0 || n < 0 || from > length - n ? INDEX : 0;
        }

        static int cut(int lane, int v) {
            if (lane == 0) {
                return (byte) v;
            }
            return lane == 1 ? (short) v : v;
        }
    }
}
