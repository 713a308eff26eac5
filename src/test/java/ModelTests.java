import java.util.ArrayList;
import java.util.Arrays;
import java.util.List;

/** Long runs of calls, answered by BrideShoes and by a plain model that tries everything there is. */
public final class ModelTests {
    private static final int BAD = -1, NOT = -2, FULL = -3, NONE = -4, NULL = -11, CAST = -12, INDEX = -13, SIZE = -14;
    private static final int RUNS = 400, CALLS = 512, KINDS = 28;
    private static long seed = 20261119;
    private static int mostBrides = 7;

    public static void main(String[] args) {
        int[] gone = new int[KINDS];
        for (int run = 0; run < RUNS; run++) {
            BrideShoes x = new BrideShoes();
            Model m = new Model();
            // Few brides more often have shoes for all.
            mostBrides = 2 + random(6);
            List<String> calls = new ArrayList<>();
            for (int c = 0; c < CALLS; c++) {
                int before = calls.size();
                int which = step(x, m, run % 4 == 0, calls);
                if (calls.get(before).startsWith("ok")) {
                    gone[which]++;
                }
                if (calls.get(before).startsWith("WRONG")) {
                    System.out.println("run " + run);
                    calls.forEach(System.out::println);
                    System.exit(1);
                }
            }
        }
        for (int which = 0; which < KINDS; which++) {
            if (gone[which] < 100) {
                System.out.println("call " + which + " went well just " + gone[which] + " times: the runs test too little");
                System.exit(1);
            }
        }
        System.out.println(RUNS + " runs of " + CALLS + " calls are as the model's");
    }

    private static int random(int n) {
        seed = seed * 6364136223846793005L + 1442695040888963407L;
        return (int) Math.floorMod(seed >>> 33, (long) n);
    }

    /** A number from least to most, and now and then one outside. */
    private static int about(int least, int most) {
        int r = random(60);
        if (r == 0) {
            return least - 1;
        }
        if (r == 1) {
            return most + 1;
        }
        if (r == 2) {
            return new int[] {Integer.MIN_VALUE, Integer.MAX_VALUE, -1, 0}[random(4)];
        }
        return least + random(most - least + 1);
    }

    private static int step(BrideShoes x, Model m, boolean wide, List<String> calls) {
        int which = random(KINDS);
        int b = about(0, Math.max(0, m.brides.size() - 1));
        int s = about(0, Math.max(0, m.shoes.size() - 1));
        int side = about(0, 1);
        int hour = about(0, 11);
        int low = wide ? 20 : 38;
        int high = wide ? 60 : 42;
        int sheet = about(0, 3);
        int lane = random(3) > 0 && sheet >= 0 && sheet < 4 && m.sheets[sheet] != null ? m.lanes[sheet] : about(0, 2);
        int got = 0;
        int want = 0;
        String call = "";
        switch (which) {
            case 0: {
                int l = about(low, high), r = about(low, high), sw = random(3) == 0 ? about(0, 4) : 0;
                call = "bride(" + l + ", " + r + ", " + sw + ", " + hour + ")";
                if (m.brides.size() < mostBrides || random(20) == 0) {
                    got = x.bride(l, r, sw, hour);
                    want = m.bride(l, r, sw, hour);
                }
                break;
            }
            case 1: {
                int what = about(0, 3);
                int v = what < 2 ? about(low, high) : what == 2 ? about(0, 4) : about(0, 11);
                call = "make(" + b + ", " + what + ", " + v + ")";
                got = x.make(b, what, v);
                want = m.make(b, what, v);
                break;
            }
            case 2: {
                int size = about(low, wide ? 70 : high), kind = about(0, 3);
                call = "shoe(" + side + ", " + size + ", " + kind + ")";
                got = x.shoe(side, size, kind);
                want = m.shoe(side, size, kind);
                break;
            }
            case 3: {
                int what = about(0, 3);
                call = "told(" + s + ", " + what + ")";
                got = x.told(s, what);
                want = m.told(s, what);
                break;
            }
            case 4: {
                boolean is = random(4) == 0;
                call = "lose(" + s + ", " + is + ")";
                got = x.lose(s, is);
                want = m.lose(s, is);
                break;
            }
            case 5: {
                int what = about(0, 1), v = about(0, 6);
                call = "set(" + what + ", " + v + ")";
                got = x.set(what, v);
                want = m.set(what, v);
                break;
            }
            case 6:
                call = "foot(" + b + ", " + side + ", " + hour + ")";
                got = x.foot(b, side, hour);
                want = m.foot(b, side, hour);
                break;
            case 7:
                call = "asked(" + s + ", " + b + ", " + hour + ")";
                got = x.asked(s, b, hour);
                want = m.asked(s, b, hour);
                break;
            case 8:
                call = "whose(" + s + ", " + hour + ")";
                got = x.whose(s, hour);
                want = m.whose(s, hour);
                break;
            case 9: {
                String text = random(3) == 0 ? "l4" : word();
                call = "type " + text;
                for (int i = 0; i < text.length(); i++) {
                    long w = text.charAt(i) + ((long) random(1000) << 8);
                    got = x.type(w, 1);
                    want = m.type(w, 1);
                    if (got != want) {
                        break;
                    }
                }
                break;
            }
            case 10:
                call = "brides of " + typeText(x, m, bridesText(low, high));
                got = x.brides();
                want = m.brides();
                break;
            case 11:
                call = "heap of " + typeText(x, m, heapText(low, high));
                got = x.heap();
                want = m.heap();
                break;
            case 12: {
                int what = about(0, 4);
                call = "count(" + what + ")";
                got = x.count(what);
                want = m.count(what);
                break;
            }
            case 13: {
                int bride = random(4) == 0 ? -1 : b;
                call = "shod(" + side + ", " + bride + ")";
                got = x.shod(side, bride);
                want = m.shod(side, bride);
                break;
            }
            case 14:
                call = "most(" + side + ")";
                got = x.most(side);
                want = m.most(side);
                break;
            case 15:
                call = "chain(" + s + ")";
                got = x.chain(s);
                want = m.chain(s);
                break;
            case 16:
                call = "limps(" + b + ", " + s + ", " + hour + ")";
                got = x.limps(b, s, hour);
                want = m.limps(b, s, hour);
                break;
            case 17: {
                int from = about(low, high), to = random(5) == 0 ? about(low, high) : from + random(8), what = about(0, 1);
                call = "tries(" + side + ", " + from + ", " + to + ", " + what + ")";
                got = x.tries(side, from, to, what);
                want = m.tries(side, from, to, what);
                break;
            }
            case 18:
                call = "image";
                if (random(4) == 0) {
                    got = x.image();
                    want = m.image();
                }
                break;
            case 19:
            case 20:
                call = "restore";
                if (random(5) == 0) {
                    got = x.restore();
                    want = m.restore();
                }
                break;
            case 21: {
                int n = Math.min(about(1, 6), Math.max(1, m.brides.size()));
                int from = random(4) == 0 ? about(0, 90) : 0, k = about(-1, Math.max(0, n - 1));
                if (random(5) > 0) {
                    mixed(x, m, side, sheet, lane, from, n);
                }
                call = "changed(" + side + ", " + sheet + ", " + lane + ", " + from + ", " + n + ", " + k + ")";
                got = x.changed(side, sheet, lane, from, n, k);
                want = m.changed(side, sheet, lane, from, n, k);
                break;
            }
            case 22: {
                int n = 2 + random(4), from = random(3) == 0 ? about(0, 10) : 0, bride = about(0, n - 1);
                ranked(x, m, sheet, lane, from, n);
                call = "firm(" + sheet + ", " + lane + ", " + from + ", " + n + ", " + bride + ")";
                got = x.firm(sheet, lane, from, n, bride);
                want = m.firm(sheet, lane, from, n, bride);
                break;
            }
            case 23: {
                int n = 2 + random(4), from = random(3) == 0 ? about(0, 10) : 0, pairs = about(0, 3);
                ranked(x, m, sheet, lane, from, n);
                if (pairs != sheet && random(4) > 0) {
                    List<Integer> row = shuffled(n);
                    x.sheet(pairs, lane, n);
                    m.sheet(pairs, lane, n);
                    for (int i = 0; i < n; i++) {
                        x.item(pairs, lane, i, row.get(i));
                        m.item(pairs, lane, i, row.get(i));
                    }
                }
                call = "judged(" + sheet + ", " + lane + ", " + from + ", " + n + ", " + pairs + ")";
                got = x.judged(sheet, lane, from, n, pairs);
                want = m.judged(sheet, lane, from, n, pairs);
                break;
            }
            case 24: {
                int n = about(0, 100);
                call = "sheet(" + sheet + ", " + lane + ", " + n + ")";
                got = x.sheet(sheet, lane, n);
                want = m.sheet(sheet, lane, n);
                break;
            }
            case 25:
                call = "drop(" + sheet + ")";
                // Not each time, as the sheets are to hold something.
                if (random(3) == 0) {
                    got = x.drop(sheet);
                    want = m.drop(sheet);
                }
                break;
            case 26: {
                int i = about(0, 20), v = random(3) == 0 ? (int) seed : random(9) - 4;
                call = "item(" + sheet + ", " + lane + ", " + i + ", " + v + ")";
                got = x.item(sheet, lane, i, v);
                want = m.item(sheet, lane, i, v);
                break;
            }
            default: {
                int i = about(0, 20), to = about(0, 3), j = about(0, 20), n = about(0, 50);
                call = "copy(" + sheet + ", " + i + ", " + to + ", " + j + ", " + n + ")";
                got = x.copy(sheet, i, to, j, n);
                want = m.copy(sheet, i, to, j, n);
                break;
            }
        }
        String how = got != want ? "WRONG, due is " + want + ": " : got >= 0 ? "ok " : "refused ";
        calls.add(how + call + " answered " + got);
        return which;
    }

    private static String word() {
        String[] words = {"l", "r", "40", "41g", "/", ",", " ", "s", "h", "38/39", "l42", "r41v", "0", "x"};
        return words[random(words.length)];
    }

    private static String blanks() {
        return random(12) == 0 ? " ".repeat(1 + random(2)) : "";
    }

    private static String number(int low, int high) {
        return "0".repeat(random(8) == 0 ? 1 + random(2) : 0) + (random(40) == 0 ? random(80) : low + random(high - low + 1));
    }

    private static String bridesText(int low, int high) {
        StringBuilder text = new StringBuilder();
        int n = random(30) == 0 ? 8 : 1 + random(mostBrides);
        for (int i = 0; i < n; i++) {
            text.append(i > 0 ? "," : "").append(blanks()).append(number(low, high)).append(blanks()).append("/");
            text.append(blanks()).append(number(low, high)).append(blanks());
            if (random(6) == 0) {
                text.append("s").append(blanks()).append(random(random(30) == 0 ? 20 : 5)).append(blanks());
            }
            if (random(3) == 0) {
                text.append("h").append(blanks()).append(random(random(30) == 0 ? 20 : 12)).append(blanks());
            }
        }
        return spoiled(text.toString());
    }

    private static String heapText(int low, int high) {
        StringBuilder text = new StringBuilder();
        int n = random(30) == 0 ? 17 : 8 + random(9);
        String[] kinds = {"", "g", "v", "p"};
        for (int i = 0; i < n; i++) {
            text.append(i > 0 ? "," : "").append(blanks()).append(random(2) == 0 ? "l" : "r").append(blanks());
            text.append(number(low, high + 3)).append(blanks()).append(kinds[random(4)]);
        }
        return spoiled(text.toString());
    }

    private static String spoiled(String text) {
        if (random(4) > 0) {
            return text;
        }
        int i = random(text.length());
        switch (random(4)) {
            case 0: return text.substring(0, i);
            case 1: return text.substring(0, i) + (char) (32 + random(95)) + text.substring(i);
            case 2: return text.substring(0, i) + text.substring(i + 1);
            default: return text.substring(0, i) + word() + text.substring(i);
        }
    }

    private static String typeText(BrideShoes x, Model m, String text) {
        if (random(6) > 0) {
            x.heap();
            m.heap();
        }
        for (int i = 0; i < text.length(); i++) {
            if (x.type(text.charAt(i), 1) != m.type(text.charAt(i), 1)) {
                throw new IllegalStateException("type of " + text);
            }
        }
        return m.tape.toString();
    }

    private static List<Integer> shuffled(int n) {
        List<Integer> row = new ArrayList<>();
        for (int i = 0; i < n; i++) {
            row.add(random(i + 1), i);
        }
        return row;
    }

    /** Ranks on a sheet, most of the time with no fault. */
    private static void ranked(BrideShoes x, Model m, int sheet, int lane, int from, int n) {
        if (random(8) == 0 || from < 0 || from > 100 - 2 * n * n) {
            return;
        }
        int size = from + 2 * n * n + (random(10) == 0 ? -1 : random(3));
        x.sheet(sheet, lane, size);
        m.sheet(sheet, lane, size);
        for (int r = 0; r < 2 * n; r++) {
            List<Integer> row = shuffled(n);
            for (int i = 0; i < n; i++) {
                int v = random(300) == 0 ? about(0, n - 1) : row.get(i);
                x.item(sheet, lane, from + r * n + i, v);
                m.item(sheet, lane, from + r * n + i, v);
            }
        }
    }

    /** How the first brides limp when their shoes are mixed, on a sheet. */
    private static void mixed(BrideShoes x, Model m, int side, int sheet, int lane, int from, int n) {
        if (side < 0 || side > 1 || from < 0 || from + n > 100 || n < 1 || n > m.brides.size()) {
            return;
        }
        int[] way = m.forAll(side);
        if (way == null) {
            return;
        }
        x.sheet(sheet, lane, from + n);
        m.sheet(sheet, lane, from + n);
        List<Integer> row = shuffled(n);
        for (int i = 0; i < n; i++) {
            int v = m.limps(i, way[row.get(i)], m.brides.get(i)[3]) + (random(60) == 0 ? 1 : 0);
            x.item(sheet, lane, from + i, v);
            m.item(sheet, lane, from + i, v);
        }
    }

    /** The document, by trying everything. */
    private static final class Model {
        List<int[]> brides = new ArrayList<>();
        List<int[]> shoes = new ArrayList<>();
        int[] settings = {2, 3};
        List<int[]> keptBrides = null;
        List<int[]> keptShoes = null;
        int[] keptSettings = null;
        StringBuilder tape = new StringBuilder();
        int[][] sheets = new int[4][];
        int[] lanes = new int[4];

        boolean brideOk(int b) {
            return b >= 0 && b < brides.size();
        }

        boolean shoeOk(int s) {
            return s >= 0 && s < shoes.size();
        }

        static boolean in(int v, int a, int b) {
            return a <= v && v <= b;
        }

        static boolean valueOk(int what, int v) {
            return what < 2 ? in(v, 20, 60) : what == 2 ? in(v, 0, 4) : in(v, 0, 11);
        }

        int bride(int l, int r, int s, int h) {
            if (!valueOk(0, l) || !valueOk(1, r) || !valueOk(2, s) || !valueOk(3, h)) {
                return BAD;
            }
            if (brides.size() == 7) {
                return FULL;
            }
            brides.add(new int[] {l, r, s, h});
            return brides.size() - 1;
        }

        int make(int b, int what, int v) {
            if (!brideOk(b) || !in(what, 0, 3) || !valueOk(what, v)) {
                return BAD;
            }
            int was = brides.get(b)[what];
            brides.get(b)[what] = v;
            return was;
        }

        int shoe(int side, int size, int kind) {
            if (!in(side, 0, 1) || !in(size, 20, 70) || !in(kind, 0, 3)) {
                return BAD;
            }
            if (shoes.size() == 16) {
                return FULL;
            }
            shoes.add(new int[] {side, size, kind, 0});
            return shoes.size() - 1;
        }

        int told(int s, int what) {
            return shoeOk(s) && in(what, 0, 3) ? shoes.get(s)[what] : BAD;
        }

        int lose(int s, boolean is) {
            if (!shoeOk(s)) {
                return BAD;
            }
            int was = shoes.get(s)[3];
            shoes.get(s)[3] = is ? 1 : 0;
            return was;
        }

        int set(int what, int v) {
            if (!in(what, 0, 1) || !in(v, 0, 6)) {
                return BAD;
            }
            int was = settings[what];
            settings[what] = v;
            return was;
        }

        int foot(int b, int side, int hour) {
            if (!brideOk(b) || !in(side, 0, 1) || !in(hour, 0, 11)) {
                return BAD;
            }
            int[] bride = brides.get(b);
            return bride[side] + (hour * bride[2] - hour * bride[2] % 4) / 4;
        }

        int gives(int kind) {
            return kind == 2 ? 1 : kind == 3 ? 2 : 0;
        }

        int asked(int s, int b, int hour) {
            if (!shoeOk(s) || !brideOk(b) || !in(hour, 0, 11)) {
                return BAD;
            }
            int[] shoe = shoes.get(s);
            int foot = foot(b, shoe[0], hour);
            for (int k = 0; k <= settings[1]; k++) {
                if (shoe[2] == 1 && k > 0 || shoe[2] == 3 && k > 1) {
                    break;
                }
                int size = shoe[1] + k;
                int loose = shoe[2] == 1 ? 0 : settings[0];
                if (!(size < foot - gives(shoe[2])) && !(size - foot > loose)) {
                    return k;
                }
            }
            return NONE;
        }

        int whose(int s, int hour) {
            if (!shoeOk(s) || !in(hour, 0, 11)) {
                return BAD;
            }
            int set = 0;
            for (int b = 0; b < brides.size(); b++) {
                set += asked(s, b, hour) >= 0 ? 1 << b : 0;
            }
            return set;
        }

        int type(long w, int n) {
            char c = (char) (w & 255);
            if (n != 1 || !in(c, 32, 126)) {
                return BAD;
            }
            if (tape.length() == 120) {
                return FULL;
            }
            tape.append(c);
            return tape.length();
        }

        int brides() {
            List<int[]> read = new ArrayList<>();
            int answer = read(7, "LnLs", read);
            tape.setLength(0);
            if (answer > 0) {
                brides = read;
            }
            return answer;
        }

        int heap() {
            List<int[]> read = new ArrayList<>();
            int answer = read(16, "h", read);
            tape.setLength(0);
            if (answer > 0) {
                shoes = read;
            }
            return answer;
        }

        /** Byte by byte, by the state in which the text stands. */
        int read(int most, String what, List<int[]> read) {
            boolean heap = what.equals("h");
            String state = heap ? "side" : "left";
            int[] row = new int[4];
            int i = 0;
            String text = tape.toString();
            while (true) {
                while (i < text.length() && text.charAt(i) == ' ') {
                    i++;
                }
                boolean end = i == text.length();
                char c = end ? 0 : text.charAt(i);
                boolean last = !Arrays.asList("side", "size", "left", "slash", "right", "swell", "hour").contains(state);
                if (last && (end || c == ',')) {
                    if (!end && read.size() == most - 1) {
                        return -20 - i;
                    }
                    read.add(row);
                    if (end) {
                        return read.size();
                    }
                    row = new int[4];
                    state = heap ? "side" : "left";
                    i++;
                    continue;
                }
                if (end) {
                    return -20 - i;
                }
                int start = i;
                String figures = "";
                while (i < text.length() && Character.isDigit(text.charAt(i))) {
                    figures += text.charAt(i++);
                }
                int v = figures.isEmpty() ? -1 : new java.math.BigInteger(figures).min(java.math.BigInteger.valueOf(999)).intValue();
                if (state.equals("left") && in(v, 20, 60)) {
                    row[0] = v;
                    state = "slash";
                } else if (state.equals("right") && in(v, 20, 60)) {
                    row[1] = v;
                    state = "s or h";
                } else if (state.equals("size") && in(v, 20, 70)) {
                    row[1] = v;
                    state = "kind";
                } else if (state.equals("hour") && in(v, 0, 11)) {
                    row[3] = v;
                    state = "done";
                } else if (state.equals("swell") && in(c, '0', '4')) {
                    row[2] = c - '0';
                    i = start + 1;
                    state = "h";
                } else if (state.equals("slash") && c == '/') {
                    i++;
                    state = "right";
                } else if (state.equals("s or h") && c == 's') {
                    i++;
                    state = "swell";
                } else if ((state.equals("s or h") || state.equals("h")) && c == 'h') {
                    i++;
                    state = "hour";
                } else if (state.equals("side") && (c == 'l' || c == 'r')) {
                    row[0] = c == 'l' ? 0 : 1;
                    i++;
                    state = "size";
                } else if (state.equals("kind") && "gvp".indexOf(c) >= 0) {
                    row[2] = 1 + "gvp".indexOf(c);
                    i++;
                    state = "done";
                } else {
                    return -20 - start;
                }
            }
        }

        int count(int what) {
            int[] counts = {brides.size(), shoes.size(), 0, 0, 0};
            for (int[] shoe : shoes) {
                counts[shoe[3] == 1 ? 4 : 2 + shoe[0]]++;
            }
            return in(what, 0, 4) ? counts[what] : BAD;
        }

        int price(int s, int b, int side) {
            int[] shoe = shoes.get(s);
            return shoe[0] != side || shoe[3] == 1 ? NONE : asked(s, b, brides.get(b)[3]);
        }

        int best;
        int[] bestRow;

        int[] forAll(int side) {
            best = Integer.MAX_VALUE;
            bestRow = null;
            put(side, new int[brides.size()], 0, 0, 0);
            return bestRow;
        }

        /** Rows in their order, so that the first of the least is kept. */
        void put(int side, int[] row, int b, int sum, int used) {
            if (sum >= best) {
                return;
            }
            if (b == row.length) {
                best = sum;
                bestRow = row.clone();
                return;
            }
            for (int s = 0; s < shoes.size(); s++) {
                int k = price(s, b, side);
                if (k >= 0 && (used >> s & 1) == 0) {
                    row[b] = s;
                    put(side, row, b + 1, sum + k, used | 1 << s);
                }
            }
        }

        int shod(int side, int b) {
            if (!in(side, 0, 1) || b != -1 && !brideOk(b)) {
                return BAD;
            }
            int[] way = forAll(side);
            return way == null ? NONE : b == -1 ? best : way[b];
        }

        int most(int side) {
            return in(side, 0, 1) ? mostFrom(side, 0, 0) : BAD;
        }

        int mostFrom(int side, int b, int used) {
            if (b == brides.size()) {
                return 0;
            }
            int most = mostFrom(side, b + 1, used);
            for (int s = 0; s < shoes.size() && most < brides.size() - b; s++) {
                if ((used >> s & 1) == 0 && price(s, b, side) >= 0) {
                    most = Math.max(most, 1 + mostFrom(side, b + 1, used | 1 << s));
                }
            }
            return most;
        }

        int chain(int s) {
            if (!shoeOk(s)) {
                return BAD;
            }
            int side = shoes.get(s)[0];
            int[] way = forAll(side);
            boolean on = false;
            for (int b = 0; way != null && b < way.length; b++) {
                on |= way[b] == s;
            }
            if (!on || shoes.get(s)[3] == 1) {
                return NOT;
            }
            int fewest = fewestOther(side, way, 0, 1 << s, 0, 100);
            return fewest == 100 ? NONE : fewest;
        }

        int fewestOther(int side, int[] way, int b, int used, int others, int bound) {
            if (b == way.length) {
                return Math.min(bound, others);
            }
            for (int s = 0; s < shoes.size() && others < bound; s++) {
                if ((used >> s & 1) == 0 && price(s, b, side) >= 0) {
                    bound = fewestOther(side, way, b + 1, used | 1 << s, others + (way[b] == s ? 0 : 1), bound);
                }
            }
            return bound;
        }

        int limps(int b, int s, int hour) {
            if (!brideOk(b) || !shoeOk(s) || !in(hour, 0, 11)) {
                return BAD - 100000;
            }
            int[] shoe = shoes.get(s);
            int foot = foot(b, shoe[0], hour);
            int above = shoe[1] - (foot + (shoe[2] == 1 ? 0 : settings[0]));
            int below = foot - gives(shoe[2]) - shoe[1];
            return above > 0 ? above : below > 0 ? -below : 0;
        }

        int tries(int side, int a, int b, int what) {
            if (!in(side, 0, 1) || !in(a, 20, 60) || !in(b, 20, 60) || a > b || !in(what, 0, 1)) {
                return BAD;
            }
            List<Integer> sizes = new ArrayList<>();
            for (int[] shoe : shoes) {
                if (shoe[0] == side && shoe[3] == 0) {
                    sizes.add(shoe[1]);
                }
            }
            int fewest = fewest(sizes, a, b, 20);
            if (fewest >= 20 || fewest == 0 && what == 1) {
                return NONE;
            }
            if (what == 0) {
                return fewest;
            }
            for (int size = 20; size <= 70; size++) {
                if (sizes.contains(size) && by(sizes, size, a, b, 20) == fewest) {
                    return size;
                }
            }
            return 12345;
        }

        /** A size between two neighbours that none tells apart makes it 20. */
        int fewest(List<Integer> sizes, int a, int b, int depth) {
            if (a >= b) {
                return 0;
            }
            for (int v = a; v < b; v++) {
                if (!sizes.contains(v) && !sizes.contains(v + 1)) {
                    return 20;
                }
            }
            int best = 20;
            for (int size = a; size <= b; size++) {
                if (sizes.contains(size)) {
                    best = Math.min(best, by(sizes, size, a, b, depth));
                }
            }
            return best;
        }

        int by(List<Integer> sizes, int size, int a, int b, int depth) {
            if (size < a || size > b || depth == 0) {
                return 20;
            }
            int less = fewest(sizes, a, size - 1, depth - 1);
            int more = fewest(sizes, size + 1, b, depth - 1);
            return Math.min(20, 1 + Math.max(less, more));
        }

        static List<int[]> copyOf(List<int[]> rows) {
            List<int[]> copy = new ArrayList<>();
            for (int[] row : rows) {
                copy.add(row.clone());
            }
            return copy;
        }

        int image() {
            keptBrides = copyOf(brides);
            keptShoes = copyOf(shoes);
            keptSettings = settings.clone();
            return 1;
        }

        int restore() {
            if (keptBrides == null) {
                return NONE;
            }
            brides = copyOf(keptBrides);
            shoes = copyOf(keptShoes);
            settings = keptSettings.clone();
            return 1;
        }

        int found(int sheet, int lane, long from, long n) {
            if (sheets[sheet] == null) {
                return NULL;
            }
            if (lanes[sheet] != lane) {
                return CAST;
            }
            return n < 0 || from < 0 || from + n > sheets[sheet].length ? INDEX : 0;
        }

        static List<List<Integer>> rows(int n) {
            List<List<Integer>> rows = new ArrayList<>();
            if (n == 0) {
                rows.add(new ArrayList<>());
                return rows;
            }
            grow(rows, new ArrayList<>(), n);
            return rows;
        }

        static void grow(List<List<Integer>> rows, List<Integer> row, int n) {
            if (row.size() == n) {
                rows.add(new ArrayList<>(row));
                return;
            }
            for (int i = 0; i < n; i++) {
                if (!row.contains(i)) {
                    row.add(i);
                    grow(rows, row, n);
                    row.remove(row.size() - 1);
                }
            }
        }

        int changed(int side, int sheet, int lane, int from, int n, int k) {
            if (!in(side, 0, 1) || !in(sheet, 0, 3) || !in(lane, 0, 2) || !in(n, 1, 6)) {
                return BAD;
            }
            if (n > brides.size() || k < -1 || k >= n) {
                return BAD;
            }
            int[] way = forAll(side);
            if (way == null) {
                return NOT;
            }
            int found = found(sheet, lane, from, n);
            if (found != 0) {
                return found;
            }
            int many = 0;
            int first = NONE;
            for (List<Integer> row : rows(n)) {
                boolean so = true;
                for (int b = 0; b < n; b++) {
                    so &= limps(b, way[row.get(b)], brides.get(b)[3]) == sheets[sheet][from + b];
                }
                if (so && many++ == 0) {
                    first = k < 0 ? 0 : row.get(k);
                }
            }
            return many == 0 ? NONE : k < 0 ? many : first;
        }

        int[][] ranks(int sheet, int from, int n) {
            int[][] ranks = new int[2 * n][];
            for (int r = 0; r < 2 * n; r++) {
                ranks[r] = Arrays.copyOfRange(sheets[sheet], from + r * n, from + r * n + n);
                if (!isRow(ranks[r])) {
                    return null;
                }
            }
            return ranks;
        }

        static boolean isRow(int[] row) {
            int[] sorted = row.clone();
            Arrays.sort(sorted);
            for (int i = 0; i < sorted.length; i++) {
                if (sorted[i] != i) {
                    return false;
                }
            }
            return true;
        }

        static boolean likesMore(int[] row, int one, int other) {
            for (int v : row) {
                if (v == one || v == other) {
                    return v == one && one != other;
                }
            }
            return false;
        }

        static int leaves(int[][] ranks, List<Integer> groomOf) {
            int n = groomOf.size();
            for (int b = 0; b < n; b++) {
                for (int g = 0; g < n; g++) {
                    if (likesMore(ranks[b], g, groomOf.get(b)) && likesMore(ranks[n + g], b, groomOf.indexOf(g))) {
                        return 10 * b + g;
                    }
                }
            }
            return NONE;
        }

        int firm(int sheet, int lane, int from, int n, int bride) {
            if (!in(sheet, 0, 3) || !in(lane, 0, 2) || !in(n, 2, 7) || !in(bride, 0, n - 1)) {
                return BAD;
            }
            int found = found(sheet, lane, from, 2L * n * n);
            if (found != 0) {
                return found;
            }
            int[][] ranks = ranks(sheet, from, n);
            if (ranks == null) {
                return NOT;
            }
            int best = -1;
            for (List<Integer> row : rows(n)) {
                if (leaves(ranks, row) == NONE && (best < 0 || likesMore(ranks[bride], row.get(bride), best))) {
                    best = row.get(bride);
                }
            }
            return best;
        }

        int judged(int sheet, int lane, int from, int n, int pairs) {
            if (!in(sheet, 0, 3) || !in(lane, 0, 2) || !in(n, 2, 7) || !in(pairs, 0, 3)) {
                return BAD;
            }
            int found = found(sheet, lane, from, 2L * n * n);
            if (found == 0) {
                found = found(pairs, lane, 0, n);
            }
            if (found != 0) {
                return found;
            }
            int[][] ranks = ranks(sheet, from, n);
            int[] told = Arrays.copyOf(sheets[pairs], n);
            if (ranks == null || !isRow(told)) {
                return NOT;
            }
            List<Integer> row = new ArrayList<>();
            for (int g : told) {
                row.add(g);
            }
            return leaves(ranks, row);
        }

        int sheet(int sheet, int lane, int n) {
            if (!in(sheet, 0, 3) || !in(lane, 0, 2) || n > 100) {
                return BAD;
            }
            if (n < 0) {
                return SIZE;
            }
            sheets[sheet] = new int[n];
            lanes[sheet] = lane;
            return n;
        }

        int drop(int sheet) {
            if (!in(sheet, 0, 3)) {
                return BAD;
            }
            int n = sheets[sheet] == null ? NULL : sheets[sheet].length;
            sheets[sheet] = null;
            return n;
        }

        int item(int sheet, int lane, int i, int v) {
            if (!in(sheet, 0, 3) || !in(lane, 0, 2)) {
                return BAD;
            }
            int found = found(sheet, lane, i, 1);
            if (found != 0) {
                return found;
            }
            int bits = lane == 0 ? 24 : lane == 1 ? 16 : 0;
            sheets[sheet][i] = v << bits >> bits;
            return 1;
        }

        int copy(int from, int i, int to, int j, int n) {
            if (!in(from, 0, 3) || !in(to, 0, 3)) {
                return BAD;
            }
            if (sheets[from] == null || sheets[to] == null) {
                return NULL;
            }
            if (lanes[from] != lanes[to]) {
                return CAST;
            }
            if (found(from, lanes[from], i, n) != 0 || found(to, lanes[to], j, n) != 0) {
                return INDEX;
            }
            int[] taken = Arrays.copyOfRange(sheets[from], i, i + n);
            for (int t = 0; t < n; t++) {
                sheets[to][j + t] = taken[t];
            }
            return n;
        }
    }
}
