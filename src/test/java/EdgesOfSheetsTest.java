/** The document's section 5 and promises 24 to 34: sheets, telling, ringing, kinds, trace, how many. */
public final class EdgesOfSheetsTest {
    private static final int LOW = Edges.LOW, HIGH = Edges.HIGH;
    private static final int UNKNOWN = Edges.UNKNOWN, OUTSIDE = Edges.OUTSIDE;
    private static final int NULL = Edges.NULL, CAST = Edges.CAST, INDEX = Edges.INDEX, SIZE = Edges.SIZE;
    private static final long LOST = Edges.LOST;
    private static Edges edges;

    public static void main(String[] args) throws Exception {
        edges = new Edges();
        fourSheets();
        rowsOfEightyCells();
        newRows();
        losing();
        cutToItsLane();
        cells();
        copies();
        copiesOfTheSame();
        telling();
        ringing();
        takenAs();
        traceWraps();
        traceOfBodiesAlone();
        howMany();
        edges.end();
    }

    private static void fourSheets() {
        edges.sentence("SHEETS 0 .. 3 have nothing (at first)");
        NearSeats x = new NearSeats();
        for (int k = 0; k < 4; k++) {
            edges.is("nothing", x.put(k, 0, 1), NULL);
            for (int lane = 0; lane < 3; lane++) {
                edges.is("nothing", x.cell(k, 0, lane), LOST);
                edges.is("nothing", x.fault(), 1);
            }
            edges.is("nothing", x.lose(k), 0);
            edges.is("a row", x.sheet(k, k % 3, k + 1), 1);
            edges.is("its last cell", x.put(k, k, 7 + k), 1);
            edges.is("no more", x.put(k, k + 1, 7), INDEX);
        }
        for (int k = 0; k < 4; k++) edges.is("each has its own", x.cell(k, k, k % 3), 7 + k);
        for (int k : new int[] {LOW, -1, 4, HIGH}) {
            edges.is("no sheet", x.sheet(k, 0, 1), UNKNOWN);
            edges.is("no sheet", x.put(k, 0, 1), UNKNOWN);
            edges.is("no sheet", x.cell(k, 0, 0), LOST);
            edges.is("no sheet is no fault", x.fault(), 0);
            edges.is("no sheet", x.lose(k), UNKNOWN);
        }
    }

    private static void rowsOfEightyCells() {
        edges.sentence("or a row of 0 .. 80 numbers (0 at first) of a LANE: 0 bytes, 1 shorts, 2 ints");
        for (int lane = 0; lane < 3; lane++) {
            NearSeats x = new NearSeats();
            edges.is("of 0", x.sheet(0, lane, 0), 1);
            edges.is("it is a row, without cells", x.put(0, 0, 1), INDEX);
            edges.is("of 1", x.sheet(1, lane, 1), 1);
            edges.is("of 79", x.sheet(2, lane, 79), 1);
            edges.is("cell 79 of 79", x.put(2, 79, 1), INDEX);
            edges.is("of 80", x.sheet(3, lane, 80), 1);
            for (int i = 0; i < 80; i++) edges.is("0 at first", x.cell(3, i, lane), 0);
            edges.is("cell 79 of 80", x.put(3, 79, 5), 1);
            edges.is("cell 80 of 80", x.put(3, 80, 5), INDEX);
            for (int n : new int[] {81, 82, HIGH}) edges.is("of " + n, x.sheet(3, lane, n), OUTSIDE);
            for (int n : new int[] {-1, -80, LOW}) edges.is("of " + n, x.sheet(3, lane, n), SIZE);
            edges.is("it has the row that it had", x.cell(3, 79, lane), 5);
        }
        NearSeats x = new NearSeats();
        for (int lane : new int[] {LOW, -1, 3, HIGH}) {
            edges.is("no lane", x.sheet(0, lane, 1), OUTSIDE);
            edges.is("no lane, n", x.sheet(0, lane, -1), OUTSIDE);
        }
        edges.is("it has nothing", x.lose(0), 0);
    }

    private static void newRows() {
        edges.sentence("A SHEET gets a new row: 1. UNKNOWN; OUTSIDE: lane, n above 80; SIZE.");
        NearSeats x = new NearSeats();
        Edges.row(x, 0, Edges.INTS, 1, 2, 3, 4, 5);
        edges.is("as long", x.sheet(0, Edges.INTS, 5), 1);
        edges.same("cells", Edges.cells(x, 0, Edges.INTS), "0 0 0 0 0 ");
        Edges.row(x, 0, Edges.INTS, 1, 2, 3, 4, 5);
        x.sheet(0, Edges.SHORTS, 2);
        edges.same("a shorter one", Edges.cells(x, 0, Edges.SHORTS), "0 0 ");
        edges.is("of another lane", x.cell(0, 0, Edges.INTS), LOST);
        edges.is("of another lane", x.fault(), 2);
        x.sheet(0, Edges.BYTES, 4);
        edges.same("a longer one", Edges.cells(x, 0, Edges.BYTES), "0 0 0 0 ");
        Edges.row(x, 0, Edges.BYTES, 1, 2, 3);
        x.lose(0);
        x.sheet(0, Edges.BYTES, 3);
        edges.same("one behind a lost one", Edges.cells(x, 0, Edges.BYTES), "0 0 0 ");
    }

    private static void losing() {
        edges.sentence("A SHEET has nothing: 1; 0: it had nothing. UNKNOWN.");
        NearSeats x = new NearSeats();
        edges.is("it had nothing", x.lose(3), 0);
        x.sheet(3, 2, 5);
        x.sheet(0, 2, 0);
        edges.is("it had a row", x.lose(3), 1);
        edges.is("it had nothing", x.lose(3), 0);
        edges.is("nothing", x.put(3, 0, 1), NULL);
        edges.is("nothing to copy", x.copy(3, 0, 0, 0, 0), NULL);
        edges.is("nothing to read", x.land(3, 2, 0, 0), NULL);
        edges.is("a row of no cells is a row", x.lose(0), 1);
        edges.is("it had nothing", x.lose(0), 0);
        for (int k : new int[] {LOW, -1, 4, HIGH}) edges.is("no sheet", x.lose(k), UNKNOWN);
    }

    private static void cutToItsLane() {
        edges.sentence("what comes to a cell of it is cut to its LANE");
        int[] given = {0, 127, 128, 129, 255, 256, 257, 300, -1, -128, -129, -256, 32767, 32768, 65535, 65536, 70001,
            -32768, -32769, HIGH, LOW, 1 << 30};
        int[] bytes = {0, 127, -128, -127, -1, 0, 1, 44, -1, -128, 127, 0, -1, 0, -1, 0, 113, 0, -1, -1, 0, 0};
        int[] shorts = {0, 127, 128, 129, 255, 256, 257, 300, -1, -128, -129, -256, 32767, -32768, -1, 0, 4465,
            -32768, 32767, -1, 0, 0};
        NearSeats x = new NearSeats();
        for (int lane = 0; lane < 3; lane++) x.sheet(lane, lane, 3);
        for (int k = 0; k < given.length; k++) {
            for (int lane = 0; lane < 3; lane++) edges.is("put", x.put(lane, 1, given[k]), 1);
            edges.is("bytes of " + given[k], x.cell(0, 1, 0), bytes[k]);
            edges.is("shorts of " + given[k], x.cell(1, 1, 1), shorts[k]);
            edges.is("ints of " + given[k], x.cell(2, 1, 2), given[k]);
        }
        for (int lane = 0; lane < 3; lane++) {
            edges.is("the cell ahead", x.cell(lane, 0, lane), 0);
            edges.is("the cell behind", x.cell(lane, 2, lane), 0);
        }
    }

    private static void cells() {
        edges.sentence("Cell i of what a SHEET has, taken as a row of a LANE.");
        NearSeats x = new NearSeats();
        for (int lane = 0; lane < 3; lane++) {
            Edges.row(x, 0, lane, 5, -6, 7);
            edges.is("the first", x.cell(0, 0, lane), 5);
            edges.is("below 0", x.cell(0, 1, lane), -6);
            edges.is("the last", x.cell(0, 2, lane), 7);
            edges.is("no fault", x.fault(), 0);
            for (int i : new int[] {LOW, -1, 3, 80, HIGH}) {
                edges.is("no cell", x.cell(0, i, lane), LOST);
                edges.is("no cell", x.fault(), 3);
                edges.is("no cell", x.put(0, i, 1), INDEX);
            }
            for (int other = 0; other < 3; other++) {
                long cell = x.cell(0, 0, other);
                edges.is("as of lane " + other, cell, other == lane ? 5 : LOST);
                edges.is("as of lane " + other, x.fault(), other == lane ? 0 : 2);
            }
        }
    }

    private static void copies() {
        edges.sentence("n cells of a SHEET from i on go to another one (perhaps the same) from j on, as they were: n.");
        for (int lane = 0; lane < 3; lane++) {
            NearSeats x = new NearSeats();
            Edges.row(x, 0, lane, 1, 2, 3, -4);
            Edges.row(x, 1, lane, 5, 6, 7);
            edges.is("some", x.copy(0, 2, 1, 0, 2), 2);
            edges.same("to", Edges.cells(x, 1, lane), "3 -4 7 ");
            edges.same("from", Edges.cells(x, 0, lane), "1 2 3 -4 ");
            edges.is("to the end", x.copy(0, 0, 1, 1, 2), 2);
            edges.same("to", Edges.cells(x, 1, lane), "3 1 2 ");
            edges.is("all", x.copy(1, 0, 0, 1, 3), 3);
            edges.same("to", Edges.cells(x, 0, lane), "1 3 1 2 ");
            edges.is("none", x.copy(0, 4, 1, 3, 0), 0);
            edges.is("no fault", x.fault(), 0);
            edges.is("beyond the first", x.copy(0, 2, 1, 0, 3), INDEX);
            edges.is("beyond the other", x.copy(0, 0, 1, 0, 4), INDEX);
            edges.same("to", Edges.cells(x, 1, lane), "3 1 2 ");
            x.sheet(2, (lane + 1) % 3, 4);
            edges.is("of unlike lanes", x.copy(0, 0, 2, 0, 1), CAST);
            edges.is("of unlike lanes", x.copy(2, 0, 0, 0, 1), CAST);
        }
        NearSeats x = new NearSeats();
        x.sheet(0, 0, 80);
        x.sheet(1, 0, 80);
        x.put(0, 79, 9);
        edges.is("80 cells", x.copy(0, 0, 1, 0, 80), 80);
        edges.is("the last of them", x.cell(1, 79, 0), 9);
        edges.is("81 cells", x.copy(0, 0, 1, 0, 81), INDEX);
    }

    private static void copiesOfTheSame() {
        edges.sentence("(perhaps the same) from j on, as they were: n.");
        NearSeats x = new NearSeats();
        Edges.row(x, 0, Edges.INTS, 1, 2, 3, 4, 5);
        edges.is("one on", x.copy(0, 0, 0, 1, 4), 4);
        edges.same("one on", Edges.cells(x, 0, Edges.INTS), "1 1 2 3 4 ");
        Edges.row(x, 0, Edges.INTS, 1, 2, 3, 4, 5);
        edges.is("one back", x.copy(0, 1, 0, 0, 4), 4);
        edges.same("one back", Edges.cells(x, 0, Edges.INTS), "2 3 4 5 5 ");
        edges.is("to itself", x.copy(0, 0, 0, 0, 5), 5);
        edges.same("to itself", Edges.cells(x, 0, Edges.INTS), "2 3 4 5 5 ");
        edges.is("one too far", x.copy(0, 0, 0, 1, 5), INDEX);
        edges.is("one too far", x.copy(0, 1, 0, 0, 5), INDEX);
        edges.same("as it was", Edges.cells(x, 0, Edges.INTS), "2 3 4 5 5 ");
    }

    private static int traceOf(int trace, int... bodies) {
        int left = trace;
        for (int body : bodies) left = 31 * left + body;
        return left;
    }

    private static void telling() {
        for (int seats : new int[] {0, 7, 50}) {
            NearSeats x = new NearSeats();
            x.church(Edges.SQUARE, 0, 0, seats);
            x.church(Edges.STEPS, 0, 0, seats);
            x.church(Edges.FERRY, 0, 0, seats);
            edges.sentence("SQUARE (1): its SEATS.");
            edges.is("square", x.tell(0), seats);
            edges.is("trace", x.trace(), 1);
            edges.sentence("STEPS (2): what SQUARE's gives, and 100.");
            edges.is("steps", x.tell(1), seats + 100);
            edges.is("trace", x.trace(), traceOf(1, 2, 1));
            edges.sentence("FERRY (3): what STEPS's gives, and what SQUARE's gives (STEPS's left out).");
            edges.is("ferry", x.tell(2), seats + 100 + seats);
            edges.is("trace", x.trace(), traceOf(1, 2, 1, 3, 2, 1, 1));
        }
        edges.sentence("TELLING of a CHURCH. UNKNOWN.");
        NearSeats x = Edges.landOf("f0,0=5");
        for (int c : new int[] {LOW, -1, 1, HIGH}) edges.is("no church", x.tell(c), UNKNOWN);
        edges.is("it leaves no number", x.trace(), 0);
        x.seats(0, 6);
        edges.is("by the seats of now", x.tell(0), 112);
    }

    private static void ringing() {
        edges.sentence("RUNG by a lent body (4): its number; FERRY ones have their own (5): 44.");
        NearSeats x = Edges.landOf("f0,0=5;q0,0=5;s0,0=5;f0,0=5;s0,0=5");
        int[] rung = {44, 1, 2, 44, 4};
        int[] bodies = {5, 4, 4, 5, 4};
        int trace = 0;
        for (int c = 0; c < 5; c++) {
            edges.is("church " + c, x.ring(c), rung[c]);
            trace = traceOf(trace, bodies[c]);
            edges.is("trace", x.trace(), trace);
        }
        edges.is("the number 0", Edges.landOf("s0,0=5").ring(0), 0);
        edges.sentence("How it is RUNG. UNKNOWN.");
        for (int c : new int[] {LOW, -1, 5, HIGH}) edges.is("no church", x.ring(c), UNKNOWN);
        edges.is("it leaves no number", x.trace(), trace);
    }

    private static void takenAs() {
        edges.sentence("A CHURCH, taken as one of a kind: 1. UNKNOWN; OUTSIDE; CAST: it is none.");
        NearSeats x = Edges.landOf("q0,0=1;s0,0=1;f0,0=1");
        for (int c = 0; c < 3; c++) {
            for (int kind = 0; kind < 3; kind++) {
                edges.is("kind " + c + " as " + kind, x.as(c, kind), kind <= c ? 1 : CAST);
                edges.is("fault", x.fault(), kind <= c ? 0 : 2);
            }
        }
        for (int v : new int[] {LOW, -1, 3, HIGH}) {
            edges.is("no kind", x.as(0, v), OUTSIDE);
            edges.is("no church", x.as(v, 0), UNKNOWN);
            edges.is("no church, no kind", x.as(v, v), UNKNOWN);
        }
        edges.is("no body begins", x.trace(), 0);
    }

    private static void traceWraps() {
        edges.sentence("`int trace()`: TRACE.");
        edges.is("a new object's", new NearSeats().trace(), 0);
        edges.sentence("an int that wraps, 0 at first, becomes 31 times it and the number");
        NearSeats x = Edges.landOf("f0,0=1;q0,0=1");
        edges.is("0 at first", x.trace(), 0);
        int trace = 0;
        boolean below = false;
        boolean back = false;
        for (int k = 0; k < 100; k++) {
            x.ring(k % 2);
            trace = traceOf(trace, k % 2 == 0 ? 5 : 4);
            edges.is("trace of " + k, x.trace(), trace);
            back |= below && trace > 0;
            below |= trace < 0;
        }
        edges.is("it wrapped to below 0 and back", below && back ? 1 : 0, 1);
    }

    private static void traceOfBodiesAlone() {
        edges.sentence("TELLING of CHURCHES by bodies that leave their number in TRACE");
        NearSeats x = Edges.some();
        int trace = x.trace();
        x.land(0, 0, 0, 3);
        x.miles(); x.few(); x.weight(0); x.line(0); x.family(-1); x.even(0); x.border(0, 1, 0); x.who(0, 0);
        x.move(0); x.open(0); x.best(1); x.as(0, 0); x.far(0, 0, 0); x.check(0, 0, 0, 6); x.seats(0, 3); x.toll(4);
        edges.is("other calls leave none", x.trace(), trace);
        x.land(0, 0, 0, 6);
        edges.is("a land leaves it as it is", x.trace(), trace);
    }

    private static void howMany() {
        edges.sentence("How many: 0 HOMES, 1 CHURCHES, 2 PLACES, 3 HEADS of all HOMES, 4 SEATS of all CHURCHES. "
            + "OUTSIDE.");
        NearSeats x = Edges.landOf("h0,0*5;h0,0*2;q0,0=50;s0,0=0;f0,0=3");
        x.place(0, 0);
        int[] many = {2, 3, 1, 7, 53};
        for (int what = 0; what < 5; what++) edges.is("what " + what, x.many(what), many[what]);
        for (int what : new int[] {LOW, -1, 5, HIGH}) edges.is("what " + what, x.many(what), OUTSIDE);
        x = new NearSeats();
        for (int h = 0; h < 10; h++) x.home(0, 0, 5);
        for (int c = 0; c < 5; c++) x.church(0, 0, 0, 50);
        for (int p = 0; p < 8; p++) x.place(0, 0);
        int[] most = {10, 5, 8, 50, 250};
        for (int what = 0; what < 5; what++) edges.is("the most of " + what, x.many(what), most[what]);
    }
}
