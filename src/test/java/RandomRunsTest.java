import java.util.Random;

/** Random runs of calls, ordinary and wrong ones, on the program and on Plain: every answer is the same. */
public final class RandomRunsTest {
    private static final Due DUE = new Due();
    private static final int[] ODD = {Integer.MIN_VALUE, Integer.MAX_VALUE, -1, -2, 0, 1, 1 << 20, -81, 80, 81};
    private static Random dice;
    private static NearSeats near;
    private static Plain plain;
    private static String run;
    /** How large the seats are at most: few seats make tight lands. */
    private static int seatsMost;

    public static void main(String[] args) {
        for (int seed = 0; seed < 240; seed++) {
            oneRun(seed, new int[] {4, 9, 50}[seed % 3]);
        }
        for (int seed = 0; seed < 4000; seed++) {
            oneText(seed);
        }
        DUE.end();
    }

    private static void begin(int seed, String name) {
        dice = new Random(seed * 7919L + name.hashCode());
        near = new NearSeats();
        plain = new Plain();
        run = name + " " + seed + ": ";
    }

    private static void oneRun(int seed, int seats) {
        begin(seed, "run");
        seatsMost = seats;
        boolean many = dice.nextInt(3) == 0;
        for (int calls = 0; calls < 512; calls++) {
            int round = calls % 128;
            if (round < (many ? 16 : 8)) {
                build();
            } else {
                ask(dice.nextInt(34) + 2);
            }
        }
    }

    private static void same(String call, long got, long want) {
        DUE.is(run + call, got, want);
    }

    /** Mostly within least .. most, sometimes one beyond, sometimes odd. */
    private static int any(int least, int most) {
        int kind = dice.nextInt(40);
        if (kind == 0) return ODD[dice.nextInt(ODD.length)];
        if (kind == 1) return most + 1;
        if (kind == 2) return least - 1;
        return most < least ? least : least + dice.nextInt(most - least + 1);
    }

    private static int anyHome() { return any(0, plain.homes.size() - 1); }
    private static int anyChurch() { return any(0, plain.churches.size() - 1); }
    /** Coordinates on a coarse net, so that ways are often alike. */
    private static int anySpot() { return dice.nextInt(3) == 0 ? any(0, 60) : 10 * dice.nextInt(7); }

    private static void build() {
        int x = anySpot(), y = anySpot();
        if (dice.nextInt(5) < 3) {
            int heads = any(1, seatsMost == 4 ? 3 : 5);
            same("home", near.home(x, y, heads), plain.home(x, y, heads));
        } else {
            int kind = any(0, 2), seats = any(0, seatsMost);
            same("church", near.church(kind, x, y, seats), plain.church(kind, x, y, seats));
        }
    }

    private static void ask(int promise) {
        if (promise < 16) {
            askSendings(promise);
        } else if (promise < 24) {
            askFamilies(promise);
        } else {
            askSheets(promise);
        }
    }

    private static void askSendings(int promise) {
        int x = anySpot(), y = anySpot(), h = anyHome(), c = anyChurch();
        switch (promise) {
            case 2: case 3: build(); break;
            case 4: if (dice.nextInt(4) == 0) landByText(); break;
            case 5: { int w = any(0, 2); same("ofHome", near.ofHome(h, w), plain.ofHome(h, w)); break; }
            case 6: { int w = any(0, 3); same("ofChurch", near.ofChurch(c, w), plain.ofChurch(c, w)); break; }
            case 7: { boolean is = dice.nextBoolean(); same("bar", near.bar(h, c, is), plain.bar(h, c, is)); break; }
            case 8: { int n = any(0, seatsMost); same("seats", near.seats(c, n), plain.seats(c, n)); break; }
            case 9: { int v = any(0, 999); same("toll", near.toll(v), plain.toll(v)); break; }
            case 10: same("far", near.far(x, y, c), plain.far(x, y, c)); break;
            case 11: same("miles", near.miles(), plain.miles()); break;
            case 12: same("few", near.few(), plain.few()); break;
            case 13: same("weight", near.weight(c), plain.weight(c)); break;
            case 14: same("line", near.line(h), plain.line(h)); break;
            default: proof(); break;
        }
    }

    private static void askFamilies(int promise) {
        int x = anySpot(), y = anySpot(), c = anyChurch();
        switch (promise) {
            case 16: { int h = any(-1, plain.homes.size() - 1); same("family", near.family(h), plain.family(h)); break; }
            case 17: { int w = any(0, 1); same("even", near.even(w), plain.even(w)); break; }
            case 18: border(c); break;
            case 19: same("who", near.who(x, y), plain.who(x, y)); break;
            case 20: same("place", near.place(x, y), plain.place(x, y)); break;
            case 21: same("move", near.move(c), plain.move(c)); break;
            case 22: { int s = any(0, (1 << plain.churches.size()) - 1); same("open", near.open(s), plain.open(s)); break; }
            default: { int k = any(0, plain.churches.size()); same("best", near.best(k), plain.best(k)); break; }
        }
    }

    private static void border(int p) {
        int q = anyChurch(), which = any(0, 2);
        same("border", near.border(p, q, which), plain.border(p, q, which));
    }

    private static void askSheets(int promise) {
        int k = any(0, 3), lane = any(0, 2), i = any(0, 80), j = any(0, 80), n = any(0, 80), c = anyChurch();
        int v = dice.nextBoolean() ? dice.nextInt() : dice.nextInt(128);
        switch (promise) {
            case 24: same("sheet", near.sheet(k, lane, n), plain.sheet(k, lane, n)); break;
            case 25: same("lose", near.lose(k), plain.lose(k)); break;
            case 26: same("put", near.put(k, i, v), plain.put(k, i, v)); break;
            case 27: same("cell", near.cell(k, i, lane), plain.cell(k, i, lane)); break;
            case 28: { int o = any(0, 3); same("copy", near.copy(k, i, o, j, n), plain.copy(k, i, o, j, n)); break; }
            case 29: same("tell", near.tell(c), plain.tell(c)); break;
            case 30: same("ring", near.ring(c), plain.ring(c)); break;
            case 31: { int w = any(0, 2); same("as", near.as(c, w), plain.as(c, w)); break; }
            case 32: same("trace", near.trace(), plain.trace()); break;
            case 33: same("fault", near.fault(), plain.fault()); break;
            case 34: { int w = any(0, 4); same("many", near.many(w), plain.many(w)); break; }
            default: same("land", near.land(k, lane, i, n), plain.land(k, lane, i, n)); break;
        }
    }

    /** A proof, often a holding one: heads go where Plain's line says, one after the other. */
    private static void proof() {
        int hs = plain.homes.size(), cs = plain.churches.size(), lane = dice.nextInt(3), n = hs * cs + cs;
        int i = dice.nextInt(5);
        if (i + n > 80) {
            return;
        }
        int size = Math.min(80, i + n + dice.nextInt(3));
        same("sheet", near.sheet(1, lane, size), plain.sheet(1, lane, size));
        int[] left = plain.seatRow();
        for (int h = 0; h < hs; h++) {
            for (int head = 0; head < plain.homes.get(h).heads; head++) {
                int line = Math.max(0, plain.line(h));
                for (int c = 0; c < cs; c++) {
                    if ((line & 1 << c) != 0 && left[c] > 0) {
                        left[c]--;
                        add(i + h * cs + c, 1);
                        break;
                    }
                }
            }
        }
        for (int c = 0; c < cs; c++) {
            add(i + hs * cs + c, Math.max(0, plain.weight(c)));
        }
        if (dice.nextInt(3) == 0 && n > 0) {
            add(i + dice.nextInt(n), dice.nextInt(3) - 1);
        }
        same("check", near.check(1, lane, i, n), plain.check(1, lane, i, n));
        int m = any(0, n);
        same("check", near.check(1, lane, i, m), plain.check(1, lane, i, m));
    }

    private static void add(int i, int more) {
        int v = (int) plain.cellOf(1, i) + more;
        same("put", near.put(1, i, v), plain.put(1, i, v));
    }

    private static String someText() {
        StringBuilder text = new StringBuilder();
        int items = 1 + dice.nextInt(dice.nextInt(3) == 0 ? 12 : 6);
        for (int k = 0; k < items; k++) {
            if (k > 0) text.append(';');
            boolean home = dice.nextInt(3) > 0;
            text.append(home ? 'h' : "qsf".charAt(dice.nextInt(3)));
            text.append(dice.nextInt(items > 8 ? 10 : 61)).append(',').append(dice.nextInt(items > 8 ? 10 : 61));
            text.append(home ? '*' : '=').append(home ? 1 + dice.nextInt(5) : dice.nextInt(items > 8 ? 10 : 51));
        }
        return text.toString();
    }

    private static String spoiled(String text) {
        StringBuilder out = new StringBuilder(text);
        String codes = "hqsf,*=;0123456789x0123456789";
        for (int k = dice.nextInt(3); k > 0 && out.length() > 0; k--) {
            int at = dice.nextInt(out.length());
            char code = codes.charAt(dice.nextInt(codes.length()));
            switch (dice.nextInt(4)) {
                case 0: out.setCharAt(at, code); break;
                case 1: out.insert(at, code); break;
                case 2: out.deleteCharAt(at); break;
                default: out.setLength(at); break;
            }
        }
        return out.toString();
    }

    private static void landByText() {
        String text = spoiled(someText());
        int lane = dice.nextInt(3), i = dice.nextInt(3), n = Math.min(80 - i, text.length());
        int size = Math.min(80, i + n + dice.nextInt(3));
        same("sheet", near.sheet(0, lane, size), plain.sheet(0, lane, size));
        for (int k = 0; k < n; k++) {
            int code = text.charAt(k);
            if (dice.nextInt(2000) == 0) code += 256 * dice.nextInt(300);
            same("put", near.put(0, i + k, code), plain.put(0, i + k, code));
        }
        same("land " + text, near.land(0, lane, i, n), plain.land(0, lane, i, n));
    }

    private static void oneText(int seed) {
        begin(seed, "text");
        for (int k = 0; k < 2; k++) {
            landByText();
            for (int w = 0; w < 5; w++) same("many", near.many(w), plain.many(w));
            for (int h = 0; h <= plain.homes.size(); h++) {
                for (int w = 0; w < 4; w++) same("ofHome", near.ofHome(h, w), plain.ofHome(h, w));
            }
            for (int c = 0; c <= plain.churches.size(); c++) {
                for (int w = 0; w < 5; w++) same("ofChurch", near.ofChurch(c, w), plain.ofChurch(c, w));
            }
        }
    }
}
