import java.util.ArrayList;
import java.util.List;

/**
 * The document once more, written as slowly and plainly as can be, and by other ways than the program:
 * sendings by an assignment of heads to single seats, weights by counting miles anew with a seat more,
 * families by trying all, texts code by code. The random tests ask both the same.
 */
final class Plain {
    static final int UNKNOWN = -1, OUTSIDE = -2, STATE = -3, FULL = -4, NONE = -9;
    static final long LOST = Long.MIN_VALUE;
    static final int NULL = 1, CAST = 2, INDEX = 3, SIZE = 4;

    static final class Home {
        int x, y, heads;
        boolean[] barred = new boolean[5];
        Home(int x, int y, int heads) { this.x = x; this.y = y; this.heads = heads; }
    }

    static class Square {
        int number, kind, x, y, seats;
        int tell(Plain p) { p.begin(1); return seats; }
        int squaresTell(Plain p) { p.begin(1); return seats; }
        int ring(Plain p) { p.begin(4); return number; }
        int far(Plain p, int fx, int fy) { return (fx - x) * (fx - x) + (fy - y) * (fy - y); }
    }

    static class Steps extends Square {
        @Override int tell(Plain p) { p.begin(2); return super.tell(p) + 100; }
        @Override int far(Plain p, int fx, int fy) { return 10 * (Math.abs(fx - x) + Math.abs(fy - y)); }
    }

    static class Ferry extends Steps {
        @Override int tell(Plain p) { p.begin(3); int steps = super.tell(p); return steps + squaresTell(p); }
        @Override int ring(Plain p) { p.begin(5); return 44; }
        @Override int far(Plain p, int fx, int fy) {
            boolean crosses = fx < 30 && x >= 30 || fx >= 30 && x < 30;
            return super.far(p, fx, fy) + (crosses ? p.toll : 0);
        }
    }

    List<Home> homes = new ArrayList<>();
    List<Square> churches = new ArrayList<>();
    List<int[]> places = new ArrayList<>();
    /** byte[], short[], int[] or null. */
    Object[] sheets = new Object[4];
    int toll = 200;
    int trace;
    int fault;

    void begin(int body) { trace = trace * 31 + body; }

    // ---- 1 the land

    static boolean spot(int x, int y) { return x >= 0 && x <= 60 && y >= 0 && y <= 60; }
    boolean noHome(int h) { return h < 0 || h >= homes.size(); }
    boolean noChurch(int c) { return c < 0 || c >= churches.size(); }

    int home(int x, int y, int heads) {
        if (!spot(x, y) || heads < 1 || heads > 5) return OUTSIDE;
        if (homes.size() == 10) return FULL;
        homes.add(new Home(x, y, heads));
        return homes.size() - 1;
    }

    int church(int kind, int x, int y, int seats) {
        if (kind < 0 || kind > 2 || !spot(x, y) || seats < 0 || seats > 50) return OUTSIDE;
        if (churches.size() == 5) return FULL;
        Square c = kind == 0 ? new Square() : kind == 1 ? new Steps() : new Ferry();
        c.number = churches.size(); c.kind = kind; c.x = x; c.y = y; c.seats = seats;
        churches.add(c);
        return c.number;
    }

    int land(int sheet, int lane, int i, int n) {
        int no = row(sheet, lane, i, n);
        if (no != 0) return no;
        StringBuilder text = new StringBuilder();
        for (int k = 0; k < n; k++) {
            long v = cellOf(sheet, i + k);
            text.append(v > 0 && v < 128 ? (char) v : '?');
        }
        int bad = firstFault(text.toString());
        if (bad >= 0) return -100 - bad;
        homes.clear();
        churches.clear();
        String[] items = text.toString().split(";");
        for (String item : items) {
            String[] numbers = item.substring(1).split("[,*=]");
            int a = Integer.parseInt(numbers[0]), b = Integer.parseInt(numbers[1]), c = Integer.parseInt(numbers[2]);
            if (item.charAt(0) == 'h') home(a, b, c); else church("qsf".indexOf(item.charAt(0)), a, b, c);
        }
        return items.length;
    }

    /** Code by code: parts are 0 letter, 1 x, 2 y, 3 last number; -1: no fault. */
    static int firstFault(String text) {
        int part = 0, homes = 0, churches = 0, items = 0, first = -1, digits = 0;
        boolean home = false;
        String number = "";
        for (int k = 0; k <= text.length(); k++) {
            boolean end = k == text.length();
            char code = end ? 0 : text.charAt(k);
            boolean digit = !end && code >= '0' && code <= '9';
            if (part == 0) {
                if (end || "hqsf".indexOf(code) < 0) return k;
                home = code == 'h';
                if (home && ++homes > 10) return k;
                if (!home && ++churches > 5) return k;
                part = 1; digits = 0; number = "";
            } else if (digit && digits < 2) {
                if (digits == 0) first = k;
                digits++;
                number += code;
            } else {
                if (digits == 0) return k;
                int v = Integer.parseInt(number);
                boolean fits = part < 3 ? v <= 60 : home ? v >= 1 && v <= 5 : v <= 50;
                if (!fits) return first;
                if (part == 3) items++;
                if (end) return part == 3 ? -1 : k;
                char due = part == 1 ? ',' : part == 2 ? (home ? '*' : '=') : ';';
                if (code != due || part == 3 && items == 15) return k;
                part = part == 3 ? 0 : part + 1; digits = 0; number = "";
            }
        }
        return -1;
    }

    int ofHome(int h, int what) {
        if (noHome(h)) return UNKNOWN;
        Home o = homes.get(h);
        return what == 0 ? o.x : what == 1 ? o.y : what == 2 ? o.heads : OUTSIDE;
    }

    int ofChurch(int c, int what) {
        if (noChurch(c)) return UNKNOWN;
        Square o = churches.get(c);
        return what == 0 ? o.kind : what == 1 ? o.x : what == 2 ? o.y : what == 3 ? o.seats : OUTSIDE;
    }

    int bar(int h, int c, boolean is) {
        if (noHome(h) || noChurch(c)) return UNKNOWN;
        boolean was = homes.get(h).barred[c];
        homes.get(h).barred[c] = is;
        return was == is ? 0 : 1;
    }

    int seats(int c, int n) {
        if (noChurch(c)) return UNKNOWN;
        if (n < 0 || n > 50) return OUTSIDE;
        int was = churches.get(c).seats;
        churches.get(c).seats = n;
        return was;
    }

    int toll(int v) {
        if (v < 0 || v > 999) return OUTSIDE;
        int was = toll;
        toll = v;
        return was;
    }

    int far(int x, int y, int c) {
        if (noChurch(c)) return UNKNOWN;
        return spot(x, y) ? churches.get(c).far(this, x, y) : OUTSIDE;
    }

    // ---- 2 sendings

    int[] seatRow() {
        int[] row = new int[churches.size()];
        for (int c = 0; c < row.length; c++) row[c] = churches.get(c).seats;
        return row;
    }

    int farOf(int h, int c) { return churches.get(c).far(this, homes.get(h).x, homes.get(h).y); }

    /** Heads as rows, single seats as columns, the least assignment of all rows (by potentials). */
    int milesWith(int[] seats, int limit) {
        final int no = 10000000;
        List<int[]> rows = new ArrayList<>();
        List<Integer> columns = new ArrayList<>();
        int heads = many(3);
        for (int c = 0; c < seats.length; c++) {
            for (int k = 0; k < Math.min(seats[c], heads); k++) columns.add(c);
        }
        while (columns.size() < heads) columns.add(-1);
        for (int h = 0; h < homes.size(); h++) {
            int[] row = new int[columns.size()];
            for (int k = 0; k < row.length; k++) {
                int c = columns.get(k);
                boolean goes = c >= 0 && !homes.get(h).barred[c] && farOf(h, c) <= limit;
                row[k] = goes ? farOf(h, c) : no;
            }
            for (int k = 0; k < homes.get(h).heads; k++) rows.add(row);
        }
        int least = assign(rows, columns.size());
        return least >= no ? NONE : least;
    }

    static int assign(List<int[]> rows, int m) {
        int n = rows.size();
        int[] u = new int[n + 1], v = new int[m + 1], p = new int[m + 1], way = new int[m + 1];
        for (int i = 1; i <= n; i++) {
            p[0] = i;
            int j0 = 0;
            int[] minv = new int[m + 1];
            java.util.Arrays.fill(minv, Integer.MAX_VALUE);
            boolean[] used = new boolean[m + 1];
            do {
                used[j0] = true;
                int i0 = p[j0], delta = Integer.MAX_VALUE, j1 = 0;
                for (int j = 1; j <= m; j++) {
                    if (used[j]) continue;
                    int cur = rows.get(i0 - 1)[j - 1] - u[i0] - v[j];
                    if (cur < minv[j]) { minv[j] = cur; way[j] = j0; }
                    if (minv[j] < delta) { delta = minv[j]; j1 = j; }
                }
                for (int j = 0; j <= m; j++) {
                    if (used[j]) { u[p[j]] += delta; v[j] -= delta; } else minv[j] -= delta;
                }
                j0 = j1;
            } while (p[j0] != 0);
            do { int j1 = way[j0]; p[j0] = p[j1]; j0 = j1; } while (j0 != 0);
        }
        int sum = 0;
        for (int j = 1; j <= m; j++) if (p[j] > 0) sum += rows.get(p[j] - 1)[j - 1];
        return sum;
    }

    int miles() { return milesWith(seatRow(), Integer.MAX_VALUE); }

    int few() {
        for (int set = 1; set < 1 << homes.size(); set++) {
            int heads = 0, seats = 0;
            for (int h = 0; h < homes.size(); h++) if ((set & 1 << h) != 0) heads += homes.get(h).heads;
            for (int c = 0; c < churches.size(); c++) {
                boolean some = false;
                for (int h = 0; h < homes.size(); h++) some |= (set & 1 << h) != 0 && !homes.get(h).barred[c];
                if (some) seats += churches.get(c).seats;
            }
            if (heads > seats) return set;
        }
        return 0;
    }

    int weight(int c) {
        if (noChurch(c)) return UNKNOWN;
        int now = miles();
        if (now == NONE) return NONE;
        int[] more = seatRow();
        more[c]++;
        return now - milesWith(more, Integer.MAX_VALUE);
    }

    int line(int h) {
        if (noHome(h)) return UNKNOWN;
        if (miles() == NONE) return NONE;
        int least = Integer.MAX_VALUE, set = 0;
        for (int c = 0; c < churches.size(); c++) {
            if (!homes.get(h).barred[c]) least = Math.min(least, farOf(h, c) + weight(c));
        }
        for (int c = 0; c < churches.size(); c++) {
            if (!homes.get(h).barred[c] && farOf(h, c) + weight(c) == least) set |= 1 << c;
        }
        return set;
    }

    int check(int sheet, int lane, int i, int n) {
        int no = row(sheet, lane, i, n);
        if (no != 0) return no;
        int hs = homes.size(), cs = churches.size();
        if (n != hs * cs + cs) return OUTSIDE;
        long[] sits = new long[cs];
        for (int h = 0; h < hs; h++) {
            long all = 0;
            for (int c = 0; c < cs; c++) {
                long go = cellOf(sheet, i + h * cs + c);
                if (go < 0 || go > 0 && homes.get(h).barred[c]) return 0;
                all += go;
                sits[c] += go;
            }
            if (all != homes.get(h).heads) return 0;
        }
        for (int c = 0; c < cs; c++) {
            long number = cellOf(sheet, i + hs * cs + c);
            if (sits[c] > churches.get(c).seats || number < 0 || number > 1000000000L) return 0;
            if (sits[c] < churches.get(c).seats && number != 0) return 0;
        }
        for (int h = 0; h < hs; h++) for (int c = 0; c < cs; c++) for (int d = 0; d < cs; d++) {
            if (cellOf(sheet, i + h * cs + c) == 0 || homes.get(h).barred[d]) continue;
            long here = farOf(h, c) + cellOf(sheet, i + hs * cs + c);
            long there = farOf(h, d) + cellOf(sheet, i + hs * cs + d);
            if (there < here) return 0;
        }
        return 1;
    }

    // ---- 3 families, even, borders

    int family(int h) {
        if (h != -1 && noHome(h)) return UNKNOWN;
        if (homes.size() > 7) return STATE;
        int cs = churches.size(), all = 1;
        for (int k = 0; k < homes.size(); k++) all *= cs;
        int least = Integer.MAX_VALUE;
        int[] found = null;
        for (int code = 0; code < all; code++) {
            int[] pick = new int[homes.size()], sits = new int[cs];
            int sum = 0, rest = code;
            boolean ok = true;
            for (int k = homes.size() - 1; k >= 0; k--) { pick[k] = rest % cs; rest /= cs; }
            for (int k = 0; k < homes.size() && ok; k++) {
                int c = pick[k];
                sits[c] += homes.get(k).heads;
                sum += homes.get(k).heads * farOf(k, c);
                ok = !homes.get(k).barred[c] && sits[c] <= churches.get(c).seats;
            }
            if (ok && sum < least) { least = sum; found = pick; }
        }
        return found == null ? NONE : h == -1 ? least : found[h];
    }

    int even(int what) {
        if (what != 0 && what != 1) return OUTSIDE;
        if (homes.isEmpty()) return 0;
        java.util.TreeSet<Integer> ways = new java.util.TreeSet<>();
        for (int h = 0; h < homes.size(); h++) for (int c = 0; c < churches.size(); c++) ways.add(farOf(h, c));
        for (int way : ways) {
            int sum = milesWith(seatRow(), way);
            if (sum != NONE) return what == 0 ? way : sum;
        }
        return NONE;
    }

    long border(int p, int q, int which) {
        if (noChurch(p) || noChurch(q) || which < 0 || which > 2 || p == q) return LOST;
        Square s = churches.get(p), t = churches.get(q);
        if (s.kind != 0 || t.kind != 0 || s.x == t.x && s.y == t.y || miles() == NONE) return LOST;
        long[] abc = {2 * (t.x - s.x), 2 * (t.y - s.y),
            t.x * t.x + t.y * t.y + weight(q) - s.x * s.x - s.y * s.y - weight(p)};
        for (long d = 1000000; d > 1; d--) {
            if (abc[0] % d == 0 && abc[1] % d == 0 && abc[2] % d == 0) for (int k = 0; k < 3; k++) abc[k] /= d;
        }
        boolean turn = abc[0] != 0 ? abc[0] < 0 : abc[1] < 0;
        return turn ? -abc[which] : abc[which];
    }

    int who(int x, int y) {
        if (!spot(x, y)) return OUTSIDE;
        if (miles() == NONE) return STATE;
        int found = NONE;
        for (int c = churches.size() - 1; c >= 0; c--) {
            if (found == NONE || far(x, y, c) + weight(c) <= far(x, y, found) + weight(found)) found = c;
        }
        return found;
    }

    // ---- 4 churches moved, shut

    int place(int x, int y) {
        if (!spot(x, y)) return OUTSIDE;
        if (places.size() == 8) return FULL;
        places.add(new int[] {x, y});
        return places.size() - 1;
    }

    int move(int c) {
        if (noChurch(c)) return UNKNOWN;
        Square o = churches.get(c);
        int x = o.x, y = o.y, now = miles(), found = -1;
        int least = now == NONE ? Integer.MAX_VALUE : now;
        for (int p = 0; p < places.size(); p++) {
            o.x = places.get(p)[0];
            o.y = places.get(p)[1];
            int then = miles();
            if (then != NONE && then < least) { least = then; found = p; }
        }
        o.x = found < 0 ? x : places.get(found)[0];
        o.y = found < 0 ? y : places.get(found)[1];
        return found < 0 ? NONE : found;
    }

    int open(int set) {
        if (set < 0 || set >= 1 << churches.size()) return OUTSIDE;
        int[] row = seatRow();
        for (int c = 0; c < row.length; c++) if ((set & 1 << c) == 0) row[c] = 0;
        return milesWith(row, Integer.MAX_VALUE);
    }

    int best(int k) {
        if (k < 0 || k > churches.size()) return OUTSIDE;
        int found = NONE;
        for (int set = (1 << churches.size()) - 1; set >= 0; set--) {
            if (Integer.bitCount(set) != k || open(set) == NONE) continue;
            if (found == NONE || open(set) <= open(found)) found = set;
        }
        return found;
    }

    // ---- 5 sheets, parts

    int fail(int f) { fault = f; return -10 - f; }
    static int laneOf(Object row) { return row instanceof byte[] ? 0 : row instanceof short[] ? 1 : 2; }
    static int sizeOf(Object row) { return java.lang.reflect.Array.getLength(row); }
    long cellOf(int k, int i) { return java.lang.reflect.Array.getLong(sheets[k], i); }

    int row(int k, int lane, int i, int n) {
        fault = 0;
        if (k < 0 || k > 3) return UNKNOWN;
        if (lane < 0 || lane > 2) return OUTSIDE;
        if (sheets[k] != null && laneOf(sheets[k]) != lane) return fail(CAST);
        if (sheets[k] == null) return fail(NULL);
        if (n < 0) return fail(SIZE);
        if (i < 0 || i > sizeOf(sheets[k]) || (long) i + n > sizeOf(sheets[k])) return fail(INDEX);
        return 0;
    }

    int sheet(int k, int lane, int n) {
        fault = 0;
        if (k < 0 || k > 3) return UNKNOWN;
        if (lane < 0 || lane > 2 || n > 80) return OUTSIDE;
        if (n < 0) return fail(SIZE);
        sheets[k] = lane == 0 ? new byte[n] : lane == 1 ? new short[n] : new int[n];
        return 1;
    }

    int lose(int k) {
        if (k < 0 || k > 3) return UNKNOWN;
        int had = sheets[k] == null ? 0 : 1;
        sheets[k] = null;
        return had;
    }

    int put(int k, int i, int v) {
        fault = 0;
        if (k < 0 || k > 3) return UNKNOWN;
        if (sheets[k] == null) return fail(NULL);
        if (i < 0 || i >= sizeOf(sheets[k])) return fail(INDEX);
        if (sheets[k] instanceof byte[] b) b[i] = (byte) v;
        if (sheets[k] instanceof short[] s) s[i] = (short) v;
        if (sheets[k] instanceof int[] w) w[i] = v;
        return 1;
    }

    long cell(int k, int i, int lane) {
        fault = 0;
        if (k < 0 || k > 3 || lane < 0 || lane > 2) return LOST;
        if (sheets[k] != null && laneOf(sheets[k]) != lane) { fault = CAST; return LOST; }
        if (sheets[k] == null) { fault = NULL; return LOST; }
        if (i < 0 || i >= sizeOf(sheets[k])) { fault = INDEX; return LOST; }
        return cellOf(k, i);
    }

    int copy(int k, int i, int other, int j, int n) {
        fault = 0;
        if (k < 0 || k > 3 || other < 0 || other > 3) return UNKNOWN;
        if (sheets[k] == null || sheets[other] == null) return fail(NULL);
        if (laneOf(sheets[k]) != laneOf(sheets[other])) return fail(CAST);
        if (i < 0 || j < 0 || n < 0) return fail(INDEX);
        if ((long) i + n > sizeOf(sheets[k]) || (long) j + n > sizeOf(sheets[other])) return fail(INDEX);
        long[] were = new long[n];
        for (int c = 0; c < n; c++) were[c] = cellOf(k, i + c);
        for (int c = 0; c < n; c++) put(other, j + c, (int) were[c]);
        return n;
    }

    int tell(int c) { return noChurch(c) ? UNKNOWN : churches.get(c).tell(this); }
    int ring(int c) { return noChurch(c) ? UNKNOWN : churches.get(c).ring(this); }

    int as(int c, int kind) {
        fault = 0;
        if (noChurch(c)) return UNKNOWN;
        Square o = churches.get(c);
        if (kind < 0 || kind > 2) return OUTSIDE;
        return kind == 0 || kind == 1 && o instanceof Steps || kind == 2 && o instanceof Ferry ? 1 : fail(CAST);
    }

    int trace() { return trace; }
    int fault() { return fault; }

    int many(int what) {
        int sum = 0;
        switch (what) {
            case 0: return homes.size();
            case 1: return churches.size();
            case 2: return places.size();
            case 3: for (Home h : homes) sum += h.heads; return sum;
            case 4: for (Square c : churches) sum += c.seats; return sum;
            default: return OUTSIDE;
        }
    }
}
