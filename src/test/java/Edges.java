import java.io.IOException;
import java.nio.file.Files;
import java.nio.file.Path;

/**
 * What the tests of edges share: the sentence of the document that is asked about (it must stand there), the rows and
 * texts of sheets, and a look at all of an object that its calls can show.
 */
final class Edges {
    static final int LOW = Integer.MIN_VALUE, HIGH = Integer.MAX_VALUE;
    static final int UNKNOWN = -1, OUTSIDE = -2, STATE = -3, FULL = -4, NONE = -9;
    static final int NULL = -11, CAST = -12, INDEX = -13, SIZE = -14;
    static final long LOST = Long.MIN_VALUE;
    static final int BYTES = 0, SHORTS = 1, INTS = 2;
    static final int SQUARE = 0, STEPS = 1, FERRY = 2;
    /** Of a call that names no FAULTS: fault() stays what it was. */
    static final int KEPT = -1;

    interface Call {
        long on(NearSeats x);
    }

    private final Due due = new Due();
    private final String document;
    private String sentence = "";

    Edges() throws IOException {
        document = plainSpaces(Files.readString(Path.of("../shared/DOC.md")));
    }

    private static String plainSpaces(String text) {
        return text.replaceAll("\\s+", " ");
    }

    /** From here on answers are asked for the sake of these words of the document. */
    void sentence(String words) {
        sentence = words;
        due.holds("the document says: " + words, document.contains(plainSpaces(words)));
    }

    void is(String call, long got, long want) {
        due.is("\"" + sentence + "\": " + call, got, want);
    }

    void same(String what, String got, String want) {
        due.holds("\"" + sentence + "\": " + what + " is " + got + ", due is " + want, got.equals(want));
    }

    void end() {
        due.end();
    }

    // ---- sheets

    static void row(NearSeats x, int k, int lane, int... cells) {
        x.sheet(k, lane, cells.length);
        for (int i = 0; i < cells.length; i++) {
            x.put(k, i, cells[i]);
        }
    }

    static void text(NearSeats x, int k, int lane, String codes) {
        row(x, k, lane, codes.chars().toArray());
    }

    static int land(NearSeats x, String codes) {
        text(x, 3, BYTES, codes);
        return x.land(3, BYTES, 0, codes.length());
    }

    static NearSeats landOf(String codes) {
        NearSeats x = new NearSeats();
        land(x, codes);
        return x;
    }

    static int proof(NearSeats x, int... cells) {
        row(x, 3, INTS, cells);
        return x.check(3, INTS, 0, cells.length);
    }

    static String cells(NearSeats x, int k, int lane) {
        StringBuilder seen = new StringBuilder();
        for (int i = 0; i < 80; i++) {
            long cell = x.cell(k, i, lane);
            if (cell == LOST) {
                break;
            }
            seen.append(cell).append(' ');
        }
        return seen.toString();
    }

    /** From a home to each church. */
    static int[] farOf(NearSeats x, int h) {
        int[] far = new int[x.many(1)];
        for (int c = 0; c < far.length; c++) {
            far[c] = x.far(x.ofHome(h, 0), x.ofHome(h, 1), c);
        }
        return far;
    }

    // ---- all that calls can show

    static String seen(NearSeats x) {
        StringBuilder seen = new StringBuilder();
        for (int what = 0; what < 5; what++) {
            seen.append(x.many(what)).append(' ');
        }
        for (int h = 0; h < x.many(0); h++) {
            seen.append("home ").append(x.ofHome(h, 0)).append(' ').append(x.ofHome(h, 1)).append(' ');
            seen.append(x.ofHome(h, 2)).append(bars(x, h)).append(' ');
        }
        for (int c = 0; c < x.many(1); c++) {
            seen.append("church ").append(x.ofChurch(c, 0)).append(' ').append(x.ofChurch(c, 1)).append(' ');
            seen.append(x.ofChurch(c, 2)).append(' ').append(x.ofChurch(c, 3)).append(' ');
        }
        int toll = x.toll(0);
        x.toll(toll);
        seen.append("toll ").append(toll).append(" trace ").append(x.trace());
        for (int k = 0; k < 4; k++) {
            seen.append(" sheet ").append(sheet(x, k));
        }
        return seen.toString();
    }

    private static String bars(NearSeats x, int h) {
        StringBuilder seen = new StringBuilder(" bars ");
        for (int c = 0; c < x.many(1); c++) {
            boolean was = x.bar(h, c, true) == 0;
            if (!was) {
                x.bar(h, c, false);
            }
            seen.append(was ? '1' : '0');
        }
        return seen.toString();
    }

    private static String sheet(NearSeats x, int k) {
        for (int lane = 0; lane < 3; lane++) {
            x.cell(k, -1, lane);
            if (x.fault() == 3) {
                return "of lane " + lane + ": " + cells(x, k, lane);
            }
        }
        return "of nothing";
    }

    // ---- refused calls

    /** A land of two homes and two churches with something of everything; sheet 3 has nothing. */
    static NearSeats some() {
        NearSeats x = new NearSeats();
        x.home(1, 2, 3);
        x.home(40, 5, 1);
        x.church(SQUARE, 3, 3, 2);
        x.church(STEPS, 40, 40, 4);
        x.bar(1, 0, true);
        x.place(7, 7);
        x.toll(300);
        x.tell(1);
        text(x, 0, BYTES, "h1,2*3");
        row(x, 1, SHORTS, 3, -1, 300);
        row(x, 2, INTS, 70000, 5);
        return x;
    }

    /** No home, church or place has room any more. */
    static NearSeats full() {
        NearSeats x = new NearSeats();
        for (int h = 0; h < 10; h++) {
            x.home(h, h, 1);
        }
        for (int c = 0; c < 5; c++) {
            x.church(SQUARE, c, c, 3);
        }
        for (int p = 0; p < 8; p++) {
            x.place(p, p);
        }
        return x;
    }

    /**
     * The call answers so, leaves that fault, and nothing else of the object is another than before. The fault that is
     * there ahead of it is never the one that is due.
     */
    void refuses(String name, Call call, long answer, int fault) {
        refuses(some(), some(), name, call, answer, fault);
    }

    void refusesFull(String name, Call call, long answer) {
        refuses(full(), full(), name, call, answer, KEPT);
    }

    private void refuses(NearSeats x, NearSeats twin, String name, Call call, long answer, int fault) {
        int ahead = fault == 4 ? 3 : 4;
        if (ahead == 4) {
            x.sheet(3, BYTES, -1);
        } else {
            x.put(0, -1, 0);
        }
        is(name + ", the fault ahead", x.fault(), ahead);
        is(name, call.on(x), answer);
        is(name + ", the fault", x.fault(), fault == KEPT ? ahead : fault);
        same(name + ", the rest", seen(x), seen(twin));
    }
}
