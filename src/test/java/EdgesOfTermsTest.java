/** The document's "Terms": refusals and faults, their order in each call's line, and that they change nothing. */
public final class EdgesOfTermsTest {
    private static final int LOW = Edges.LOW, HIGH = Edges.HIGH;
    private static final int UNKNOWN = Edges.UNKNOWN, OUTSIDE = Edges.OUTSIDE, STATE = Edges.STATE, FULL = Edges.FULL;
    private static final int NULL = Edges.NULL, CAST = Edges.CAST, INDEX = Edges.INDEX, SIZE = Edges.SIZE;
    private static final long LOST = Edges.LOST;
    private static final int KEPT = Edges.KEPT;
    private static final int[] NO_SHEETS = {-1, 4, LOW, HIGH};
    private static final int[] NO_LANES = {-1, 3, LOW, HIGH};
    private static Edges edges;

    public static void main(String[] args) throws Exception {
        edges = new Edges();
        refusalsOfTheLand();
        refusalsOfSendings();
        refusalsWhereFull();
        refusalsOfSheets();
        sheetFaults();
        putFaults();
        cellFaults();
        copyFaults();
        asFaults();
        rowFaults("land", "UNKNOWN; OUTSIDE: lane; CAST (nothing is no CAST); NULL; SIZE: n below 0; INDEX;");
        rowFaults("check", "UNKNOWN; OUTSIDE: lane; CAST; NULL; SIZE; INDEX; OUTSIDE: n is not");
        firstFaultComesLast();
        proofsLengthComesLast();
        indexOfNoCells();
        faultsHaveNumbers();
        faultOfTheLatestCall();
        setsAreBits();
        allCallsOfAnObject();
        edges.end();
    }

    private static void refusalsOfTheLand() {
        edges.sentence("of several the first in the order in which a call's line tells them. They change nothing");
        edges.refuses("home x", x -> x.home(61, 0, 1), OUTSIDE, KEPT);
        edges.refuses("home y", x -> x.home(0, -1, 1), OUTSIDE, KEPT);
        edges.refuses("home heads", x -> x.home(0, 0, 0), OUTSIDE, KEPT);
        edges.refuses("church kind", x -> x.church(3, 0, 0, 0), OUTSIDE, KEPT);
        edges.refuses("church x", x -> x.church(0, -1, 0, 0), OUTSIDE, KEPT);
        edges.refuses("church y", x -> x.church(0, 0, 61, 0), OUTSIDE, KEPT);
        edges.refuses("church seats", x -> x.church(0, 0, 0, 51), OUTSIDE, KEPT);
        edges.refuses("ofHome h", x -> x.ofHome(2, 0), UNKNOWN, KEPT);
        edges.refuses("ofHome what", x -> x.ofHome(1, 3), OUTSIDE, KEPT);
        edges.refuses("ofHome h, what", x -> x.ofHome(2, 3), UNKNOWN, KEPT);
        edges.refuses("ofChurch c", x -> x.ofChurch(2, 0), UNKNOWN, KEPT);
        edges.refuses("ofChurch what", x -> x.ofChurch(1, 4), OUTSIDE, KEPT);
        edges.refuses("ofChurch c, what", x -> x.ofChurch(2, 4), UNKNOWN, KEPT);
        edges.refuses("bar h", x -> x.bar(2, 0, true), UNKNOWN, KEPT);
        edges.refuses("bar c", x -> x.bar(0, 2, true), UNKNOWN, KEPT);
        edges.refuses("bar h, c", x -> x.bar(-1, -1, true), UNKNOWN, KEPT);
        edges.refuses("unbar h", x -> x.bar(2, 0, false), UNKNOWN, KEPT);
        edges.refuses("seats c", x -> x.seats(2, 5), UNKNOWN, KEPT);
        edges.refuses("seats n", x -> x.seats(0, 51), OUTSIDE, KEPT);
        edges.refuses("seats c, n", x -> x.seats(2, 51), UNKNOWN, KEPT);
        edges.refuses("toll", x -> x.toll(1000), OUTSIDE, KEPT);
        edges.refuses("far c", x -> x.far(0, 0, 2), UNKNOWN, KEPT);
        edges.refuses("far x", x -> x.far(61, 0, 1), OUTSIDE, KEPT);
        edges.refuses("far y", x -> x.far(0, 61, 1), OUTSIDE, KEPT);
        edges.refuses("far c, x, y", x -> x.far(61, 61, 2), UNKNOWN, KEPT);
        edges.refuses("many", x -> x.many(5), OUTSIDE, KEPT);
    }

    private static void refusalsOfSendings() {
        edges.sentence("of several the first in the order in which a call's line tells them. They change nothing");
        edges.refuses("weight", x -> x.weight(2), UNKNOWN, KEPT);
        edges.refuses("line", x -> x.line(2), UNKNOWN, KEPT);
        edges.refuses("family above", x -> x.family(2), UNKNOWN, KEPT);
        edges.refuses("family below", x -> x.family(-2), UNKNOWN, KEPT);
        edges.refuses("even", x -> x.even(2), OUTSIDE, KEPT);
        edges.refuses("border p", x -> x.border(2, 0, 0), LOST, KEPT);
        edges.refuses("border q", x -> x.border(0, 2, 0), LOST, KEPT);
        edges.refuses("border which", x -> x.border(0, 1, 3), LOST, KEPT);
        edges.refuses("border both are one", x -> x.border(0, 0, 0), LOST, KEPT);
        edges.refuses("border no square", x -> x.border(0, 1, 0), LOST, KEPT);
        edges.refuses("who", x -> x.who(61, 0), OUTSIDE, KEPT);
        edges.refuses("place", x -> x.place(0, 61), OUTSIDE, KEPT);
        edges.refuses("move", x -> x.move(2), UNKNOWN, KEPT);
        edges.refuses("open", x -> x.open(4), OUTSIDE, KEPT);
        edges.refuses("best", x -> x.best(3), OUTSIDE, KEPT);
        edges.refuses("tell", x -> x.tell(2), UNKNOWN, KEPT);
        edges.refuses("ring", x -> x.ring(2), UNKNOWN, KEPT);
        NearSeats none = Edges.some();
        none.seats(1, 0);
        edges.is("no sending", none.miles(), Edges.NONE);
        edges.is("weight: UNKNOWN, no sending", none.weight(2), UNKNOWN);
        edges.is("line: UNKNOWN, no sending", none.line(2), UNKNOWN);
        edges.is("family: UNKNOWN, no sending", none.family(2), UNKNOWN);
        edges.is("even: OUTSIDE, no sending", none.even(2), OUTSIDE);
        edges.is("who: OUTSIDE, no sending", none.who(61, 0), OUTSIDE);
        edges.is("move: UNKNOWN, no sending", none.move(2), UNKNOWN);
        edges.is("open: OUTSIDE, no sending", none.open(4), OUTSIDE);
        edges.is("best: OUTSIDE, no sending", none.best(3), OUTSIDE);
    }

    private static void refusalsWhereFull() {
        edges.sentence("A HOME: its number. OUTSIDE; FULL.");
        edges.refusesFull("home", x -> x.home(0, 0, 1), FULL);
        edges.refusesFull("home x, full", x -> x.home(61, 0, 1), OUTSIDE);
        edges.refusesFull("home y, full", x -> x.home(0, -1, 1), OUTSIDE);
        edges.refusesFull("home heads, full", x -> x.home(0, 0, 6), OUTSIDE);
        edges.sentence("A CHURCH: its number. OUTSIDE; FULL.");
        edges.refusesFull("church", x -> x.church(0, 0, 0, 0), FULL);
        edges.refusesFull("church kind, full", x -> x.church(-1, 0, 0, 0), OUTSIDE);
        edges.refusesFull("church x, full", x -> x.church(0, 61, 0, 0), OUTSIDE);
        edges.refusesFull("church y, full", x -> x.church(0, 0, -1, 0), OUTSIDE);
        edges.refusesFull("church seats, full", x -> x.church(0, 0, 0, -1), OUTSIDE);
        edges.sentence("A PLACE: its number. OUTSIDE; FULL.");
        edges.refusesFull("place", x -> x.place(60, 60), FULL);
        edges.refusesFull("place x, full", x -> x.place(61, 0), OUTSIDE);
        edges.refusesFull("place y, full", x -> x.place(0, -1), OUTSIDE);
        edges.sentence("UNKNOWN: h; STATE.");
        edges.refusesFull("family, ten homes", x -> x.family(-1), STATE);
        edges.refusesFull("family of one of ten homes", x -> x.family(9), STATE);
        edges.refusesFull("family of no home, ten homes", x -> x.family(10), UNKNOWN);
        edges.refusesFull("family of no home, ten homes", x -> x.family(-2), UNKNOWN);
    }

    private static void refusalsOfSheets() {
        edges.sentence("They change nothing (but fault(), of a call that names FAULTS)");
        for (int k : NO_SHEETS) {
            edges.refuses("lose " + k, x -> x.lose(k), UNKNOWN, KEPT);
            edges.refuses("sheet " + k, x -> x.sheet(k, 0, 1), UNKNOWN, 0);
            edges.refuses("put " + k, x -> x.put(k, 0, 1), UNKNOWN, 0);
            edges.refuses("cell " + k, x -> x.cell(k, 0, 0), LOST, 0);
            edges.refuses("copy from " + k, x -> x.copy(k, 0, 0, 0, 1), UNKNOWN, 0);
            edges.refuses("copy to " + k, x -> x.copy(0, 0, k, 0, 1), UNKNOWN, 0);
            edges.refuses("land " + k, x -> x.land(k, 0, 0, 1), UNKNOWN, 0);
            edges.refuses("check " + k, x -> x.check(k, 0, 0, 1), UNKNOWN, 0);
        }
        for (int lane : NO_LANES) {
            edges.refuses("sheet of lane " + lane, x -> x.sheet(0, lane, 1), OUTSIDE, 0);
            edges.refuses("cell of lane " + lane, x -> x.cell(0, 0, lane), LOST, 0);
            edges.refuses("land of lane " + lane, x -> x.land(0, lane, 0, 6), OUTSIDE, 0);
            edges.refuses("check of lane " + lane, x -> x.check(0, lane, 0, 6), OUTSIDE, 0);
        }
    }

    private static void sheetFaults() {
        edges.sentence("A SHEET gets a new row: 1. UNKNOWN; OUTSIDE: lane, n above 80; SIZE.");
        edges.refuses("n of 81", x -> x.sheet(0, 0, 81), OUTSIDE, 0);
        edges.refuses("n most", x -> x.sheet(0, 0, HIGH), OUTSIDE, 0);
        edges.refuses("n of -1", x -> x.sheet(0, 0, -1), SIZE, 4);
        edges.refuses("n least", x -> x.sheet(3, 2, LOW), SIZE, 4);
        edges.refuses("no sheet, lane", x -> x.sheet(4, 3, 1), UNKNOWN, 0);
        edges.refuses("no sheet, n above", x -> x.sheet(4, 0, 81), UNKNOWN, 0);
        edges.refuses("no sheet, n below", x -> x.sheet(-1, 0, -1), UNKNOWN, 0);
        edges.refuses("lane, n above", x -> x.sheet(0, 3, 81), OUTSIDE, 0);
        edges.refuses("lane, n below", x -> x.sheet(0, 3, -1), OUTSIDE, 0);
    }

    private static void putFaults() {
        edges.sentence("Cell i of a SHEET becomes v: 1. UNKNOWN; NULL; INDEX.");
        edges.refuses("nothing", x -> x.put(3, 0, 1), NULL, 1);
        edges.refuses("i of -1", x -> x.put(0, -1, 1), INDEX, 3);
        edges.refuses("i at the end", x -> x.put(1, 3, 1), INDEX, 3);
        edges.refuses("i least", x -> x.put(1, LOW, 1), INDEX, 3);
        edges.refuses("i most", x -> x.put(1, HIGH, 1), INDEX, 3);
        edges.refuses("no sheet, i", x -> x.put(4, -1, 1), UNKNOWN, 0);
        edges.refuses("nothing, i", x -> x.put(3, -1, 1), NULL, 1);
    }

    private static void cellFaults() {
        edges.sentence("LOST: UNKNOWN, OUTSIDE: lane; FAULTS CAST (nothing is no CAST), NULL, INDEX.");
        edges.refuses("another lane", x -> x.cell(0, 0, 1), LOST, 2);
        edges.refuses("another lane", x -> x.cell(2, 0, 0), LOST, 2);
        edges.refuses("another lane", x -> x.cell(1, 0, 2), LOST, 2);
        for (int lane = 0; lane < 3; lane++) {
            int of = lane;
            edges.refuses("nothing as of lane " + lane, x -> x.cell(3, 0, of), LOST, 1);
        }
        edges.refuses("i of -1", x -> x.cell(0, -1, 0), LOST, 3);
        edges.refuses("i at the end", x -> x.cell(0, 6, 0), LOST, 3);
        edges.refuses("i least", x -> x.cell(2, LOW, 2), LOST, 3);
        edges.refuses("i most", x -> x.cell(2, HIGH, 2), LOST, 3);
        edges.refuses("no sheet, lane, i", x -> x.cell(4, -1, 3), LOST, 0);
        edges.refuses("lane, i", x -> x.cell(0, -1, 3), LOST, 0);
        edges.refuses("lane, nothing", x -> x.cell(3, 0, -1), LOST, 0);
        edges.refuses("another lane, i", x -> x.cell(0, -1, 1), LOST, 2);
        edges.refuses("nothing, i", x -> x.cell(3, -1, 0), LOST, 1);
    }

    private static void copyFaults() {
        edges.sentence("UNKNOWN; FAULTS NULL (the first, the other), CAST (unlike LANES), "
            + "INDEX: i, j, n below 0 or beyond.");
        edges.refuses("the first has nothing", x -> x.copy(3, 0, 0, 0, 1), NULL, 1);
        edges.refuses("the other has nothing", x -> x.copy(0, 0, 3, 0, 1), NULL, 1);
        edges.refuses("both have nothing", x -> x.copy(3, 0, 3, 0, 0), NULL, 1);
        edges.refuses("nothing, no cells", x -> x.copy(3, 0, 0, 0, 0), NULL, 1);
        edges.refuses("unlike lanes", x -> x.copy(0, 0, 1, 0, 1), CAST, 2);
        edges.refuses("unlike lanes, no cells", x -> x.copy(2, 0, 1, 0, 0), CAST, 2);
        int[][] wrong = {{-1, 0, 1}, {0, -1, 1}, {0, 0, -1}, {6, 0, 1}, {0, 6, 1}, {0, 0, 7}, {1, 0, 6}, {0, 1, 6},
            {LOW, 0, 1}, {0, LOW, 1}, {0, 0, LOW}, {HIGH, 0, 1}, {0, HIGH, 1}, {0, 0, HIGH}, {1, 1, HIGH},
            {HIGH, HIGH, HIGH}};
        for (int[] w : wrong) {
            edges.refuses("i " + w[0] + " j " + w[1] + " n " + w[2], x -> x.copy(0, w[0], 0, w[1], w[2]), INDEX, 3);
        }
        edges.refuses("no sheet, nothing", x -> x.copy(4, 0, 3, 0, 1), UNKNOWN, 0);
        edges.refuses("nothing, no sheet", x -> x.copy(3, 0, 4, 0, 1), UNKNOWN, 0);
        edges.refuses("no sheet, i", x -> x.copy(4, -1, 0, 0, 1), UNKNOWN, 0);
        edges.refuses("nothing, i", x -> x.copy(3, -1, 0, 0, 1), NULL, 1);
        edges.refuses("nothing, n", x -> x.copy(0, 0, 3, 0, -1), NULL, 1);
        edges.refuses("unlike lanes, i", x -> x.copy(0, -1, 1, 0, 1), CAST, 2);
        edges.refuses("unlike lanes, n", x -> x.copy(0, 0, 1, 0, -1), CAST, 2);
        edges.refuses("n below 0 is no size", x -> x.copy(1, 0, 1, 0, -1), INDEX, 3);
    }

    private static void asFaults() {
        edges.sentence("A CHURCH, taken as one of a kind: 1. UNKNOWN; OUTSIDE; CAST: it is none.");
        for (int c : new int[] {-1, 2, LOW, HIGH}) {
            edges.refuses("no church", x -> x.as(c, 0), UNKNOWN, 0);
            edges.refuses("no church, no kind", x -> x.as(c, 3), UNKNOWN, 0);
        }
        for (int kind : new int[] {-1, 3, LOW, HIGH}) {
            edges.refuses("no kind", x -> x.as(0, kind), OUTSIDE, 0);
        }
        edges.refuses("a square as steps", x -> x.as(0, 1), CAST, 2);
        edges.refuses("a square as ferry", x -> x.as(0, 2), CAST, 2);
        edges.refuses("steps as ferry", x -> x.as(1, 2), CAST, 2);
    }

    private static long rowCall(String call, NearSeats x, int k, int lane, int i, int n) {
        return call.equals("land") ? x.land(k, lane, i, n) : x.check(k, lane, i, n);
    }

    /** What land and check say alike of n cells of a sheet from i on. */
    private static void rowFaults(String call, String line) {
        edges.sentence(line);
        row(call, "another lane", 0, 1, 0, 6, CAST, 2);
        row(call, "another lane", 0, 2, 0, 6, CAST, 2);
        row(call, "another lane", 1, 0, 0, 2, CAST, 2);
        row(call, "another lane", 2, 1, 0, 2, CAST, 2);
        row(call, "another lane, n", 0, 1, 0, -1, CAST, 2);
        row(call, "another lane, i", 0, 1, 7, 1, CAST, 2);
        for (int lane = 0; lane < 3; lane++) {
            row(call, "nothing", 3, lane, 0, 1, NULL, 1);
            row(call, "nothing, no cells", 3, lane, 0, 0, NULL, 1);
            row(call, "nothing, n", 3, lane, 0, -1, NULL, 1);
            row(call, "nothing, i", 3, lane, -1, 1, NULL, 1);
        }
        row(call, "n of -1", 0, 0, 0, -1, SIZE, 4);
        row(call, "n least", 0, 0, 0, LOW, SIZE, 4);
        row(call, "n, i below", 0, 0, -1, -1, SIZE, 4);
        row(call, "n, i beyond", 0, 0, 7, -1, SIZE, 4);
        int[][] wrong = {{-1, 1}, {6, 1}, {7, 1}, {0, 7}, {1, 6}, {5, 2}, {LOW, 1}, {HIGH, 1}, {0, HIGH}, {1, HIGH},
            {HIGH, HIGH}, {LOW, HIGH}, {-1, 6}};
        for (int[] w : wrong) {
            row(call, "index", 0, 0, w[0], w[1], INDEX, 3);
        }
        for (int k : NO_SHEETS) {
            row(call, "no sheet, lane", k, 3, 0, 1, UNKNOWN, 0);
            row(call, "no sheet, n", k, 0, 0, -1, UNKNOWN, 0);
            row(call, "no sheet, i", k, 0, -1, 1, UNKNOWN, 0);
        }
        for (int lane : NO_LANES) {
            row(call, "lane, nothing", 3, lane, 0, 1, OUTSIDE, 0);
            row(call, "lane, n", 0, lane, 0, -1, OUTSIDE, 0);
            row(call, "lane, i", 0, lane, -1, 1, OUTSIDE, 0);
        }
    }

    private static void row(String call, String why, int k, int lane, int i, int n, int answer, int fault) {
        String name = call + "(" + k + ", " + lane + ", " + i + ", " + n + ") " + why;
        edges.refuses(name, x -> rowCall(call, x, k, lane, i, n), answer, fault);
    }

    private static void firstFaultComesLast() {
        edges.sentence("SIZE: n below 0; INDEX; -100 less it.");
        row("land", "not a text", 2, 2, 0, 2, -100, 0);
        row("land", "not a text, another lane", 2, 1, 0, 2, CAST, 2);
        row("land", "not a text, beyond", 2, 2, 0, 3, INDEX, 3);
        row("land", "an empty text", 2, 2, 0, 0, -100, 0);
        row("land", "ends too soon", 0, 0, 0, 5, -105, 0);
        row("land", "ends too soon, beyond", 0, 0, 0, 7, INDEX, 3);
    }

    private static void proofsLengthComesLast() {
        edges.sentence("INDEX; OUTSIDE: n is not HOMES times CHURCHES and CHURCHES.");
        row("check", "n of 5", 0, 0, 0, 5, OUTSIDE, 0);
        row("check", "n of 0", 0, 0, 6, 0, OUTSIDE, 0);
        row("check", "n of 2, another lane", 1, 0, 0, 2, CAST, 2);
        row("check", "n of 2, nothing", 3, 0, 0, 2, NULL, 1);
        row("check", "n of -2", 1, 1, 0, -2, SIZE, 4);
        row("check", "n of 7, beyond", 0, 0, 0, 7, INDEX, 3);
        row("check", "as long as a proof", 0, 0, 0, 6, 0, 0);
    }

    private static void indexOfNoCells() {
        edges.sentence("of cells from i on also where i is not 0 .. how many there are, if none of them is taken, too");
        for (int i : new int[] {-1, 7, LOW, HIGH}) {
            row("land", "no cells", 0, 0, i, 0, INDEX, 3);
            row("check", "no cells", 0, 0, i, 0, INDEX, 3);
            edges.refuses("copy none from " + i, x -> x.copy(0, i, 0, 0, 0), INDEX, 3);
            edges.refuses("copy none to " + i, x -> x.copy(0, 0, 0, i, 0), INDEX, 3);
        }
        for (int i : new int[] {0, 1, 6}) {
            row("land", "no cells, an empty text", 0, 0, i, 0, -100, 0);
            row("check", "no cells, too short", 0, 0, i, 0, OUTSIDE, 0);
            edges.refuses("copy none from " + i, x -> x.copy(0, i, 0, 0, 0), 0, 0);
            edges.refuses("copy none to " + i, x -> x.copy(0, 0, 0, i, 0), 0, 0);
        }
        NearSeats x = new NearSeats();
        x.sheet(0, 0, 0);
        x.sheet(1, 0, 80);
        edges.is("a row of no cells, at 0", x.land(0, 0, 0, 0), -100);
        edges.is("a row of no cells, at 1", x.land(0, 0, 1, 0), INDEX);
        edges.is("a row of no cells, from 0", x.copy(0, 0, 1, 80, 0), 0);
        edges.is("a row of no cells, from 1", x.copy(0, 1, 1, 80, 0), INDEX);
        edges.is("a row of 80, to 81", x.copy(0, 0, 1, 81, 0), INDEX);
        edges.is("a row of no cells has no cell", x.put(0, 0, 1), INDEX);
        edges.is("a row of no cells has no cell", x.cell(0, 0, 0), LOST);
        edges.is("nothing to prove", x.check(1, 0, 80, 0), 1);
        edges.is("nothing to prove, beyond", x.check(1, 0, 81, 0), INDEX);
    }

    private static void faultsHaveNumbers() {
        edges.sentence("Of a call the first that is come to, in the order told; it answers -10 less it");
        edges.refuses("NULL ahead of INDEX", x -> x.put(3, 9, 1), -10 - 1, 1);
        edges.refuses("CAST ahead of INDEX", x -> x.copy(0, 9, 1, 9, 9), -10 - 2, 2);
        edges.refuses("INDEX", x -> x.copy(0, 9, 0, 9, 9), -10 - 3, 3);
        edges.refuses("SIZE ahead of INDEX", x -> x.land(0, 0, 9, -9), -10 - 4, 4);
        edges.sentence("1 NULL (there is nothing), 2 CAST (it is of another LANE, kind), 3 INDEX");
        NearSeats x = Edges.some();
        edges.is("NULL", x.put(3, 0, 0) * 10 + x.fault(), -109);
        edges.is("CAST", x.as(0, 2) * 10 + x.fault(), -118);
        edges.is("INDEX", x.put(0, 6, 0) * 10 + x.fault(), -127);
        edges.sentence("4 SIZE (a length below 0)");
        edges.is("SIZE", x.sheet(0, 0, -1) * 10 + x.fault(), -136);
        edges.sentence("(LOST, where a long is answered, as for refusals)");
        edges.is("LOST is the least long", NearSeats.LOST, Long.MIN_VALUE);
        edges.is("cell of nothing", x.cell(3, 0, 0), LOST);
        edges.is("border of no church", x.border(9, 0, 0), LOST);
    }

    private static void faultOfTheLatestCall() {
        edges.sentence("0: it came to none, or was refused (0 ahead of any).");
        edges.is("ahead of any", new NearSeats().fault(), 0);
        Edges.Call[] calls = {x -> x.land(0, 0, 0, 6), x -> x.land(0, 0, 0, 3), x -> x.check(0, 0, 0, 6),
            x -> x.check(0, 0, 0, 3), x -> x.sheet(3, 0, 0), x -> x.put(0, 5, 1), x -> x.cell(0, 5, 0),
            x -> x.copy(0, 0, 0, 0, 6), x -> x.as(0, 0)};
        for (int k = 0; k < calls.length; k++) {
            NearSeats x = Edges.some();
            edges.is("a fault", x.sheet(0, 0, -1), SIZE);
            edges.is("fault tells it", x.fault(), 4);
            edges.is("and tells it again", x.fault(), 4);
            calls[k].on(x);
            edges.is("call " + k + " came to none", x.fault(), 0);
        }
        edges.sentence("The FAULT of the latest call that names one");
        Edges.Call[] others = {x -> x.home(0, 0, 1), x -> x.church(0, 0, 0, 0), x -> x.ofHome(0, 0),
            x -> x.ofChurch(0, 0), x -> x.bar(0, 0, true), x -> x.seats(0, 0), x -> x.toll(0), x -> x.far(0, 0, 0),
            x -> x.miles(), x -> x.few(), x -> x.weight(0), x -> x.line(0), x -> x.family(0), x -> x.even(0),
            x -> x.border(0, 1, 0), x -> x.who(0, 0), x -> x.place(0, 0), x -> x.move(0), x -> x.open(0),
            x -> x.best(0), x -> x.lose(0), x -> x.lose(3), x -> x.tell(0), x -> x.ring(0), x -> x.trace(), x -> x.many(0)};
        for (int k = 0; k < others.length; k++) {
            NearSeats x = Edges.some();
            x.put(0, -1, 0);
            others[k].on(x);
            edges.is("call " + k + " names none", x.fault(), 3);
        }
    }

    private static void setsAreBits() {
        edges.sentence("Sets are told as bits (bit k for number k).");
        NearSeats x = Edges.landOf("h0,0*1;h9,9*1;q0,0=1;q9,9=0;q9,9=1");
        edges.is("line of home 0: church 0", x.line(0), 1);
        edges.is("line of home 1: churches 1, 2", x.line(1), 6);
        edges.is("best of 2: churches 0, 2", x.best(2), 5);
        edges.is("open of churches 0, 2", x.open(5), 0);
        edges.is("open of churches 0, 1", x.open(3), Edges.NONE);
        x.bar(1, 0, true);
        x.bar(1, 1, true);
        x.bar(1, 2, true);
        edges.is("few: home 1", x.few(), 2);
    }

    private static void allCallsOfAnObject() {
        edges.sentence("An object is used for at most 512 calls after it has been made");
        NearSeats x = new NearSeats();
        x.home(0, 0, 5);
        x.church(Edges.SQUARE, 1, 0, 5);
        x.church(Edges.STEPS, 1, 0, 0);
        x.sheet(0, Edges.INTS, 1);
        int calls = 4;
        for (int k = 0; calls < 512; k++, calls += 4) {
            edges.is("call " + (calls + 1) + ", seats", x.seats(1, k % 6 == 5 ? 0 : k % 6 + 1), k % 6);
            edges.is("call " + (calls + 2) + ", miles", x.miles(), 5);
            edges.is("call " + (calls + 3) + ", weight", x.weight(1), 0);
            edges.is("call " + (calls + 4) + ", put", x.put(0, 0, k), 1);
        }
        edges.is("calls", calls, 512);
    }
}
