/** The document's section 1 and promises 1 to 10: the land, and the text of a land. */
public final class EdgesOfLandTest {
    private static final int LOW = Edges.LOW, HIGH = Edges.HIGH;
    private static final int UNKNOWN = Edges.UNKNOWN, OUTSIDE = Edges.OUTSIDE, FULL = Edges.FULL, NONE = Edges.NONE;
    private static Edges edges;

    public static void main(String[] args) throws Exception {
        edges = new Edges();
        newObject();
        spots();
        homes();
        heads();
        churches();
        seats();
        kinds();
        ofHomeAndChurch();
        farOfKinds();
        tollOverTheShore();
        tollsBounds();
        barred();
        itemsOfText();
        endsTooSoon();
        codeWithWhichNoTextGoesOn();
        wideCodes();
        numbersOfDigits();
        numbersNotAsTold();
        tooManyHomes();
        tooManyChurches();
        aTextThatIsTaken();
        aTextThatIsNot();
        cellsFromIOn();
        edges.end();
    }

    private static void newObject() {
        edges.sentence("No HOMES, CHURCHES, PLACES, SHEETS.");
        NearSeats x = new NearSeats();
        for (int what = 0; what < 5; what++) edges.is("many " + what, x.many(what), 0);
        edges.is("no home", x.ofHome(0, 0), UNKNOWN);
        edges.is("no church", x.ofChurch(0, 0), UNKNOWN);
        for (int k = 0; k < 4; k++) {
            edges.is("sheet " + k + " has nothing", x.put(k, 0, 0), Edges.NULL);
            edges.is("sheet " + k + " has nothing", x.lose(k), 0);
        }
        edges.is("no place", x.place(1, 1), 0);
        edges.is("the rest is as at first", new NearSeats().toll(0) + x.trace(), 200);
    }

    private static void spots() {
        edges.sentence("SPOTS are x, y, 0 .. 60 each.");
        for (int v : new int[] {0, 1, 59, 60, -1, 61, LOW, HIGH, 60 + (1 << 8), 60 + (1 << 16)}) {
            boolean is = v >= 0 && v <= 60;
            NearSeats x = new NearSeats();
            x.church(0, 0, 0, 1);
            edges.is("home x " + v, x.home(v, 0, 1), is ? 0 : OUTSIDE);
            edges.is("home y " + v, x.home(0, v, 1), is ? 1 : OUTSIDE);
            edges.is("church x " + v, x.church(0, v, 0, 9), is ? 1 : OUTSIDE);
            edges.is("church y " + v, x.church(0, 0, v, 9), is ? 2 : OUTSIDE);
            edges.is("place x " + v, x.place(v, 0), is ? 0 : OUTSIDE);
            edges.is("place y " + v, x.place(0, v), is ? 1 : OUTSIDE);
            edges.is("far x " + v, x.far(v, 0, 0), is ? v * v : OUTSIDE);
            edges.is("far y " + v, x.far(0, v, 0), is ? v * v : OUTSIDE);
            edges.is("who x " + v, x.who(v, 0), is ? v == 0 ? 0 : 1 : OUTSIDE);
            edges.is("who y " + v, x.who(0, v), is ? v == 0 ? 0 : 2 : OUTSIDE);
            edges.is("homes made", x.many(0), is ? 2 : 0);
            if (is) {
                edges.is("its x", x.ofHome(0, 0), v);
                edges.is("its y", x.ofHome(1, 1), v);
                edges.is("its x", x.ofChurch(1, 1), v);
                edges.is("its y", x.ofChurch(2, 2), v);
            }
        }
    }

    private static void homes() {
        edges.sentence("HOMES, 10 at most, numbered from 0 on");
        NearSeats x = new NearSeats();
        for (int h = 0; h < 10; h++) edges.is("home", x.home(h, 60 - h, 1 + h % 5), h);
        edges.is("an eleventh", x.home(20, 20, 2), FULL);
        edges.is("again", x.home(20, 20, 2), FULL);
        edges.is("ten", x.many(0), 10);
        for (int h = 0; h < 10; h++) {
            edges.is("x", x.ofHome(h, 0), h);
            edges.is("y", x.ofHome(h, 1), 60 - h);
            edges.is("heads", x.ofHome(h, 2), 1 + h % 5);
        }
    }

    private static void heads() {
        edges.sentence("with HEADS (1 .. 5)");
        for (int v : new int[] {LOW, -1, 0, 1, 5, 6, HIGH, 257}) {
            NearSeats x = new NearSeats();
            boolean is = v >= 1 && v <= 5;
            edges.is("heads " + v, x.home(0, 0, v), is ? 0 : OUTSIDE);
            edges.is("all heads", x.many(3), is ? v : 0);
        }
    }

    private static void churches() {
        edges.sentence("CHURCHES, 5 at most, numbered from 0 on");
        NearSeats x = new NearSeats();
        for (int c = 0; c < 5; c++) edges.is("church", x.church(c % 3, c, 60 - c, 50 - c), c);
        edges.is("a sixth", x.church(0, 20, 20, 2), FULL);
        edges.is("again", x.church(0, 20, 20, 2), FULL);
        edges.is("five", x.many(1), 5);
        for (int c = 0; c < 5; c++) {
            edges.is("kind", x.ofChurch(c, 0), c % 3);
            edges.is("x", x.ofChurch(c, 1), c);
            edges.is("y", x.ofChurch(c, 2), 60 - c);
            edges.is("seats", x.ofChurch(c, 3), 50 - c);
        }
    }

    private static void seats() {
        edges.sentence("with SEATS (0 .. 50), of a kind");
        for (int v : new int[] {LOW, -1, 0, 1, 50, 51, HIGH, 256}) {
            NearSeats x = new NearSeats();
            boolean is = v >= 0 && v <= 50;
            edges.is("seats " + v, x.church(0, 0, 0, v), is ? 0 : OUTSIDE);
            edges.is("all seats", x.many(4), is ? v : 0);
        }
        edges.sentence("SEATS of a CHURCH become n: what they were. UNKNOWN; OUTSIDE.");
        NearSeats x = Edges.landOf("q0,0=7;q0,0=8");
        for (int v : new int[] {LOW, -1, 51, HIGH}) {
            edges.is("seats " + v, x.seats(0, v), OUTSIDE);
            edges.is("no church, seats " + v, x.seats(2, v), UNKNOWN);
        }
        for (int c : new int[] {LOW, -1, 2, HIGH}) edges.is("no church", x.seats(c, 1), UNKNOWN);
        edges.is("to 50", x.seats(0, 50), 7);
        edges.is("to 0", x.seats(0, 0), 50);
        edges.is("to the same", x.seats(0, 0), 0);
        edges.is("to 1", x.seats(0, 1), 0);
        edges.is("the other's are as they were", x.ofChurch(1, 3), 8);
        edges.is("all", x.many(4), 9);
    }

    private static void kinds() {
        edges.sentence("of a kind: 0 SQUARE; 1 STEPS, a SQUARE; 2 FERRY, a STEPS");
        for (int kind : new int[] {LOW, -1, 3, HIGH, 256}) {
            edges.is("kind " + kind, new NearSeats().church(kind, 0, 0, 1), OUTSIDE);
        }
        for (int kind = 0; kind < 3; kind++) {
            NearSeats x = new NearSeats();
            edges.is("kind " + kind, x.church(kind, 0, 0, 1), 0);
            edges.is("kind", x.ofChurch(0, 0), kind);
            for (int as = 0; as < 3; as++) {
                edges.is("kind " + kind + " as " + as, x.as(0, as), as <= kind ? 1 : Edges.CAST);
            }
        }
    }

    private static void ofHomeAndChurch() {
        NearSeats x = Edges.landOf("h1,2*3;q4,5=6;h7,8*4;f9,10=11");
        edges.sentence("Of a HOME: 0 x, 1 y, 2 HEADS. UNKNOWN; OUTSIDE.");
        int[] home = {7, 8, 4};
        for (int what = 0; what < 3; what++) edges.is("of home 1", x.ofHome(1, what), home[what]);
        for (int what : new int[] {LOW, -1, 3, HIGH}) {
            edges.is("what " + what, x.ofHome(1, what), OUTSIDE);
            edges.is("no home, what " + what, x.ofHome(2, what), UNKNOWN);
        }
        for (int h : new int[] {LOW, -1, 2, HIGH}) edges.is("no home", x.ofHome(h, 0), UNKNOWN);
        edges.sentence("Of a CHURCH: 0 kind, 1 x, 2 y, 3 SEATS. UNKNOWN; OUTSIDE.");
        int[] church = {2, 9, 10, 11};
        for (int what = 0; what < 4; what++) edges.is("of church 1", x.ofChurch(1, what), church[what]);
        for (int what : new int[] {LOW, -1, 4, HIGH}) {
            edges.is("what " + what, x.ofChurch(1, what), OUTSIDE);
            edges.is("no church, what " + what, x.ofChurch(2, what), UNKNOWN);
        }
        for (int c : new int[] {LOW, -1, 2, HIGH}) edges.is("no church", x.ofChurch(c, 0), UNKNOWN);
        edges.sentence("FAR from a SPOT to a CHURCH. UNKNOWN; OUTSIDE.");
        for (int c : new int[] {LOW, -1, 2, HIGH}) {
            edges.is("no church", x.far(0, 0, c), UNKNOWN);
            edges.is("no church, no spot", x.far(0, 61, c), UNKNOWN);
            edges.is("no church, no spot", x.far(-1, 0, c), UNKNOWN);
        }
    }

    private static void farOfKinds() {
        NearSeats x = Edges.landOf("q20,30=1;s20,30=1");
        edges.sentence("of a SQUARE one dx dx and dy dy");
        edges.is("at its spot", x.far(20, 30, 0), 0);
        edges.is("right of it, above", x.far(23, 34, 0), 25);
        edges.is("left of it, below", x.far(17, 26, 0), 25);
        edges.is("over the shore without a toll", x.far(60, 30, 0), 1600);
        edges.is("the most", Edges.landOf("q0,60=1").far(60, 0, 0), 7200);
        edges.sentence("of a STEPS one 10 times the sizes of dx and dy together");
        edges.is("at its spot", x.far(20, 30, 1), 0);
        edges.is("right of it, above", x.far(23, 34, 1), 70);
        edges.is("left of it, below", x.far(17, 26, 1), 70);
        edges.is("left of it, above: sizes", x.far(17, 34, 1), 70);
        edges.is("right of it, below: sizes", x.far(23, 26, 1), 70);
        edges.is("over the shore without a toll", x.far(60, 30, 1), 400);
        edges.is("the most", Edges.landOf("s0,60=1").far(60, 0, 0), 1200);
    }

    private static void tollOverTheShore() {
        edges.sentence("if one of both SPOTS has x below 30, the other not");
        for (int church : new int[] {0, 29, 30, 60}) {
            NearSeats x = new NearSeats();
            x.church(Edges.FERRY, church, 0, 1);
            for (int spot : new int[] {0, 29, 30, 31, 60}) {
                boolean over = church < 30 ? spot >= 30 : spot < 30;
                int steps = 10 * Math.abs(church - spot);
                edges.is("ferry at " + church + " from " + spot, x.far(spot, 0, 0), steps + (over ? 200 : 0));
            }
            edges.is("y is of no weight", x.far(church, 60, 0), 600);
        }
    }

    private static void tollsBounds() {
        edges.sentence("THE TOLL (0 .. 999; 200 at first)");
        NearSeats x = Edges.landOf("h29,0*1;f30,0=1");
        edges.is("by the first", x.miles(), 210);
        for (int v : new int[] {LOW, -1, 1000, HIGH}) edges.is("toll " + v, x.toll(v), OUTSIDE);
        edges.is("what it was", x.toll(0), 200);
        edges.is("of 0", x.miles(), 10);
        edges.is("what it was", x.toll(999), 0);
        edges.is("of 999", x.miles(), 1009);
        edges.is("far of 999", x.far(29, 0, 0), 1009);
        edges.is("what it was", x.toll(999), 999);
        edges.sentence("THE TOLL becomes v: what it was. OUTSIDE.");
        edges.is("wrong", x.toll(1000), OUTSIDE);
        edges.is("as it was", x.toll(1), 999);
    }

    private static void barred() {
        edges.sentence("A HOME can be BARRED from a CHURCH (none at first).");
        NearSeats x = Edges.full();
        for (int h = 0; h < 10; h++) {
            for (int c = 0; c < 5; c++) edges.is("not barred", x.bar(h, c, false), 0);
        }
        edges.sentence("A HOME is BARRED from a CHURCH, or not: 1; 0: it was so. UNKNOWN.");
        edges.is("the last from the last", x.bar(9, 4, true), 1);
        edges.is("it was so", x.bar(9, 4, true), 0);
        edges.is("others are not", x.bar(9, 3, false) + x.bar(8, 4, false) + x.bar(0, 0, false), 0);
        edges.is("no longer", x.bar(9, 4, false), 1);
        edges.is("it was so", x.bar(9, 4, false), 0);
        for (int k : new int[] {LOW, -1, 10, 32, HIGH}) edges.is("no home", x.bar(k, 0, true), UNKNOWN);
        for (int k : new int[] {LOW, -1, 5, 32, HIGH}) edges.is("no church", x.bar(0, k, true), UNKNOWN);
        NearSeats later = Edges.landOf("h0,0*1;q0,0=1");
        later.bar(0, 0, true);
        later.church(0, 1, 0, 1);
        later.home(0, 0, 1);
        edges.is("a later church", later.bar(0, 1, false), 0);
        edges.is("a later home", later.bar(1, 0, false) + later.bar(1, 1, false), 0);
    }

    // ---- the text of a land

    private static String repeat(String item, int times) {
        StringBuilder text = new StringBuilder();
        for (int k = 0; k < times; k++) text.append(k == 0 ? "" : ";").append(item);
        return text.toString();
    }

    private static void landIs(String text, int want) {
        edges.is("land of " + text, Edges.land(new NearSeats(), text), want);
    }

    private static void itemsOfText() {
        edges.sentence("1 to 15 items with ; between");
        landIs("", -100);
        landIs("h0,0*1", 1);
        landIs("q0,0=0", 1);
        landIs("s0,0=0", 1);
        landIs("f0,0=0", 1);
        landIs("h0,0*1;h0,0*1", 2);
        landIs(";", -100);
        landIs(";h0,0*1", -100);
        landIs("h0,0*1;;h0,0*1", -107);
        landIs("h0,0*1h0,0*1", -106);
        landIs("h0,0*1,h0,0*1", -106);
        landIs("h0,0*1;", -107);
        landIs(repeat("h0,0*1", 10) + ";q0,0=0", 11);
        landIs(repeat("h0,0*1", 6) + ";" + repeat("s9,9=0", 5), 11);
        landIs(repeat("q60,60=50", 5) + ";" + repeat("h7,8*1", 4) + ";", -178);
        landIs(repeat("q60,60=50", 5) + ";" + repeat("h7,8*1", 4) + ";h", -179);
        landIs(repeat("q60,60=50", 5) + ";" + repeat("h7,8*1", 3) + ";h07,8*01", 9);
    }

    private static void endsTooSoon() {
        edges.sentence("how many codes there are, if it just ends too soon");
        String text = "h1,2*3;q10,20=30;f4,5=6";
        for (int n = 0; n <= text.length(); n++) {
            int items = n == 6 ? 1 : n == 15 || n == 16 ? 2 : n == 23 ? 3 : -100 - n;
            landIs(text.substring(0, n), items);
        }
        for (String letter : new String[] {"h", "q", "s", "f"}) landIs(letter, -101);
        edges.is("the row goes on behind the text", goesOn("h1,2*3", 5), -105);
        edges.is("the row goes on behind the text", goesOn("h11,2*3", 2), -102);
    }

    private static int goesOn(String row, int n) {
        NearSeats x = new NearSeats();
        Edges.text(x, 0, Edges.INTS, row);
        return x.land(0, Edges.INTS, 0, n);
    }

    /** Every code of a byte at every place of a text; digits and what is due there are asked elsewhere. */
    private static void codeWithWhichNoTextGoesOn() {
        edges.sentence("the place (from 0 on) of the first code with which no TEXT goes on");
        String text = "h1,2*3;q4,5=6;s7,8=9;f1,2=3";
        String[] due = {"hqsf", "", ",", "", "*", "", ";", "hqsf", "", ",", "", "=", "", ";",
            "hqsf", "", ",", "", "=", "", ";", "hqsf", "", ",", "", "=", ""};
        edges.is("the text itself", Edges.land(new NearSeats(), text), 4);
        for (int at = 0; at < text.length(); at++) {
            for (int code = -128; code < 128; code++) {
                boolean digit = code >= '0' && code <= '9' && due[at].length() < 4;
                if (!digit && due[at].indexOf(code) < 0) {
                    NearSeats x = new NearSeats();
                    Edges.text(x, 0, Edges.BYTES, text);
                    x.put(0, at, code);
                    edges.is("code " + code + " at " + at, x.land(0, Edges.BYTES, 0, text.length()), -100 - at);
                    edges.is("nothing is made", x.many(0) + x.many(1), 0);
                }
            }
        }
        landIs("0", -100);
        landIs("h1,2*3;0", -107);
        landIs("h,", -101);
        landIs("h1,,", -103);
        landIs("h1,2=3", -104);
        landIs("q1,2*3", -104);
        landIs("s1,2*3", -104);
        landIs("f1,2*3", -104);
        landIs("h1*2,3", -102);
        landIs("xh61", -100);
        landIs("h1x61", -102);
    }

    private static void wideCodes() {
        edges.sentence("(Codes: h 104, q 113, s 115, f 102, the comma 44, * 42, = 61, ; 59, digits 48 .. 57.)");
        int[] row = {104, 48, 44, 57, 42, 53, 59, 113, 49, 44, 56, 61, 52, 59, 115, 50, 44, 55, 61, 51, 59,
            102, 54, 44, 48, 61, 57};
        NearSeats x = new NearSeats();
        for (int lane = 0; lane < 3; lane++) {
            Edges.row(x, lane, lane, row);
            edges.is("in lane " + lane, x.land(lane, lane, 0, row.length), 4);
            edges.is("home", x.ofHome(0, 0) * 100 + x.ofHome(0, 1) * 10 + x.ofHome(0, 2), 95);
            int[] churches = {184, 1273, 2609};
            for (int c = 0; c < 3; c++) {
                int seen = x.ofChurch(c, 0) * 1000 + x.ofChurch(c, 1) * 100 + x.ofChurch(c, 2) * 10 + x.ofChurch(c, 3);
                edges.is("church " + c, seen, churches[c]);
            }
        }
        for (int at = 0; at < row.length; at++) {
            for (int more : new int[] {256, -256, 65536, LOW, 1 << 30}) {
                Edges.row(x = new NearSeats(), 2, 2, row);
                x.put(2, at, row[at] + more);
                edges.is("another code at " + at, x.land(2, 2, 0, row.length), -100 - at);
                x.sheet(0, 0, row.length);
                for (int k = 0; k < row.length; k++) x.put(0, k, row[k] + (more == 1 << 30 ? 256 : more));
                edges.is("cut to bytes it is the same", x.land(0, 0, 0, row.length), 4);
            }
        }
    }

    private static void numbersOfDigits() {
        edges.sentence("numbers of one or two digits");
        landIs("h,2*3", -101);
        landIs("h1,*3", -103);
        landIs("h1,2*;", -105);
        landIs("q1,2=;", -105);
        landIs("h123,2*3", -103);
        landIs("h1,234*3", -105);
        landIs("h1,2*034", -107);
        landIs("q1,2=345", -107);
        landIs("q1,2=345;", -107);
        landIs("h001,2*3", -103);
        landIs("h00,00*01", 1);
        NearSeats x = Edges.landOf("h09,60*05;q08,0=00;s60,07=09");
        edges.is("x of 09", x.ofHome(0, 0), 9);
        edges.is("y of 60", x.ofHome(0, 1), 60);
        edges.is("heads of 05", x.ofHome(0, 2), 5);
        edges.is("x of 08", x.ofChurch(0, 1), 8);
        edges.is("seats of 00", x.ofChurch(0, 3), 0);
        edges.is("y of 07", x.ofChurch(1, 2), 7);
        edges.is("seats of 09", x.ofChurch(1, 3), 9);
    }

    /** Every number of one or two digits at every place of a number, behind another item and ahead of one. */
    private static void numbersNotAsTold() {
        edges.sentence("of a number that is not as told its first digit");
        for (int v = 0; v < 100; v++) {
            for (int digits = v < 10 ? 1 : 2; digits < 3; digits++) {
                String number = (digits == 2 && v < 10 ? "0" : "") + v;
                boolean spot = v <= 60;
                for (String tail : new String[] {"", ";h1,1*1", ";x"}) {
                    int items = tail.isEmpty() ? 1 : 2;
                    boolean broken = tail.equals(";x");
                    numberIs("h", number, ",2*3" + tail, spot, items, broken);
                    numberIs("h1,", number, "*3" + tail, spot, items, broken);
                    numberIs("h1,2*", number, tail, v >= 1 && v <= 5, items, broken);
                    for (String letter : new String[] {"q", "s", "f"}) {
                        numberIs(letter, number, ",2=3" + tail, spot, items, broken);
                        numberIs(letter + "1,", number, "=3" + tail, spot, items, broken);
                        numberIs(letter + "1,2=", number, tail, v <= 50, items, broken);
                    }
                }
            }
        }
        landIs("h61", -101);
        landIs("h61x", -101);
        landIs("h610", -101);
        landIs("h6x", -102);
        landIs("h1,61", -103);
        landIs("h1,2*0", -105);
        landIs("h1,2*00", -105);
        landIs("h1,2*60", -105);
        landIs("h1,2*0x", -105);
        landIs("q1,2=51x", -105);
        landIs("q1,2=99", -105);
    }

    private static void numberIs(String head, String number, String tail, boolean asTold, int items, boolean broken) {
        String text = head + number + tail;
        int want = broken ? -100 - text.length() + 1 : items;
        landIs(text, asTold ? want : -100 - head.length());
    }

    private static void tooManyHomes() {
        edges.sentence("h of an eleventh HOME");
        String ten = repeat("h0,0*1", 10);
        landIs(ten, 10);
        landIs(ten + ";", -170);
        landIs(ten + ";h", -170);
        landIs(ten + ";h0,0*1", -170);
        landIs(ten + ";x", -170);
        landIs(ten + ";q", -171);
        landIs(ten + ";q0,0=0", 11);
        landIs(ten + ";q0,0=0;", -177);
        landIs(repeat("h0,0*1", 5) + ";s0,0=9;" + repeat("h0,0*1", 5) + ";h", -177);
        NearSeats x = Edges.full();
        edges.is("of one text, not with those before", Edges.land(x, ten), 10);
        edges.is("of one text, not with those before", Edges.land(x, ten), 10);
        edges.is("one that is not taken", Edges.land(x, ten + ";h"), -170);
        edges.is("of one text, not with those before", Edges.land(x, ten), 10);
    }

    private static void tooManyChurches() {
        edges.sentence("q, s, f of a sixth CHURCH, too");
        for (String letter : new String[] {"q", "s", "f"}) {
            for (String sixth : new String[] {"q", "s", "f"}) {
                String five = repeat(letter + "0,0=0", 5);
                landIs(five, 5);
                landIs(five + ";" + sixth, -135);
                landIs(five + ";" + sixth + "0,0=0", -135);
                landIs("h1,1*1;" + five + ";" + sixth + "0,0=0", -142);
                landIs(five + ";h1,1*1;" + sixth + "0,0=0", -142);
            }
        }
        String mixed = "q0,0=0;s0,0=0;f0,0=0;q0,0=0;f0,0=0";
        landIs(mixed, 5);
        landIs(mixed + ";s0,0=0", -135);
        landIs(mixed + ";h0,0*1", 6);
        landIs(mixed + ";h", -136);
        NearSeats x = Edges.full();
        edges.is("of one text, not with those before", Edges.land(x, mixed), 5);
        edges.is("one that is not taken", Edges.land(x, mixed + ";s"), -135);
        edges.is("of one text, not with those before", Edges.land(x, mixed), 5);
    }

    private static void aTextThatIsTaken() {
        edges.sentence("A TEXT that is taken makes all HOMES, CHURCHES anew, nobody BARRED.");
        NearSeats x = Edges.full();
        x.bar(0, 0, true);
        x.bar(1, 1, true);
        x.bar(9, 4, true);
        x.toll(77);
        x.tell(0);
        edges.is("taken", Edges.land(x, "h5,6*2;s7,8=3"), 2);
        edges.is("homes", x.many(0), 1);
        edges.is("churches", x.many(1), 1);
        edges.is("heads", x.many(3), 2);
        edges.is("seats", x.many(4), 3);
        edges.is("no home 1", x.ofHome(1, 0), UNKNOWN);
        edges.is("no church 1", x.ofChurch(1, 0), UNKNOWN);
        edges.is("not barred", x.bar(0, 0, false), 0);
        edges.is("miles", x.miles(), 80);
        edges.is("a home", x.home(0, 0, 1), 1);
        edges.is("a church", x.church(0, 0, 0, 1), 1);
        edges.is("new ones are not barred", x.bar(1, 1, false) + x.bar(0, 1, false) + x.bar(1, 0, false), 0);
        edges.is("places stay", x.many(2), 8);
        edges.is("the toll stays", x.toll(0), 77);
        edges.is("the trace stays", x.trace(), 1);
        edges.is("the text stays", x.cell(3, 0, Edges.BYTES), 'h');
        edges.is("homes alone", Edges.land(x, "h1,1*1"), 1);
        edges.is("no churches", x.many(1), 0);
        edges.is("no sending", x.miles(), NONE);
        edges.is("churches alone", Edges.land(x, "q1,1=1"), 1);
        edges.is("no homes", x.many(0), 0);
        edges.is("no homes", x.miles(), 0);
    }

    private static void aTextThatIsNot() {
        edges.sentence("how many items; -100 less the FIRST FAULT.");
        String[] texts = {"", "h1,1*1;", "h1,1*1;q1,1=51", "q1,1=1;q1,1=1;q1,1=1;q1,1=1;q1,1=1;q1,1=1", "h1,1*1;x"};
        int[] faults = {0, 7, 12, 35, 7};
        for (int k = 0; k < texts.length; k++) {
            NearSeats x = Edges.some();
            Edges.text(x, 3, Edges.BYTES, texts[k]);
            String before = Edges.seen(x);
            edges.is("land of " + texts[k], x.land(3, Edges.BYTES, 0, texts[k].length()), -100 - faults[k]);
            edges.is("it is no fault of the machine", x.fault(), 0);
            edges.same("all", Edges.seen(x), before);
            edges.is("a later text is taken", Edges.land(x, "h1,1*1"), 1);
        }
    }

    private static void cellsFromIOn() {
        edges.sentence("A LAND by a TEXT of n cells of a SHEET from i on, taken as a row of a LANE");
        NearSeats x = new NearSeats();
        String text = "h9,9*5;q1,2=3";
        for (int lane = 0; lane < 3; lane++) {
            Edges.text(x, lane, lane, text);
            edges.is("all", x.land(lane, lane, 0, 13), 2);
            edges.is("the first", x.land(lane, lane, 0, 6), 1);
            edges.is("its x", x.ofHome(0, 0), 9);
            edges.is("the last", x.land(lane, lane, 7, 6), 1);
            edges.is("its seats", x.ofChurch(0, 3), 3);
            edges.is("the place is told from the text's first code on", x.land(lane, lane, 1, 12), -100);
            edges.is("the place is told from the text's first code on", x.land(lane, lane, 7, 5), -105);
            edges.is("behind the last", x.land(lane, lane, 13, 0), -100);
        }
        String longest = repeat("q60,60=50", 5) + ";" + repeat("h7,8*1", 3) + ";h07,8*01";
        edges.is("with the cell ahead of it 80 cells", longest.length(), 79);
        Edges.text(x, 0, Edges.BYTES, "." + longest);
        edges.is("to the last cell", x.land(0, Edges.BYTES, 1, 79), 9);
        edges.is("the last home", x.ofHome(3, 0) * 10 + x.ofHome(3, 2), 71);
    }
}
