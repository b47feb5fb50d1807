/** The document's sections 3, 4 and promises 16 to 23: families, even, borders, who, places, churches moved, shut. */
public final class EdgesOfFamiliesTest {
    private static final int LOW = Edges.LOW, HIGH = Edges.HIGH;
    private static final int UNKNOWN = Edges.UNKNOWN, OUTSIDE = Edges.OUTSIDE, STATE = Edges.STATE, FULL = Edges.FULL;
    private static final int NONE = Edges.NONE;
    private static final long LOST = Edges.LOST;
    private static Edges edges;

    public static void main(String[] args) throws Exception {
        edges = new Edges();
        wholeToOneChurch();
        firstRowOfFamilies();
        allRowsOfSmallLands();
        moreThanSevenHomes();
        noFamilies();
        longestMadeShortest();
        longestShorterByOne();
        evenWithoutHomesOrSending();
        bordersNumbers();
        bordersSign();
        bordersByWeights();
        bordersLost();
        whoOfTheLeast();
        whoWithout();
        eightPlaces();
        movesToTheLeast();
        movesIfLess();
        openSets();
        bestSets();
        edges.end();
    }

    // ---- 3 families, even, borders

    private static void rowIs(String what, NearSeats x, int... row) {
        for (int h = 0; h < row.length; h++) edges.is(what + ", home " + h, x.family(h), row[h]);
    }

    private static void wholeToOneChurch() {
        edges.sentence("each HOME's HEADS whole to one CHURCH: the SENDING of the least MILES of such");
        NearSeats x = Edges.landOf("h0,0*3;q0,0=2;q10,0=3");
        edges.is("parted", x.miles(), 100);
        edges.is("whole", x.family(-1), 300);
        rowIs("whole", x, 1);
        x.seats(0, 3);
        edges.is("just room", x.family(-1), 0);
        rowIs("just room", x, 0);
        x.bar(0, 0, true);
        edges.is("barred", x.family(-1), 300);
        x = Edges.landOf("h0,0*1;h0,0*2;q0,0=2;q10,0=9");
        edges.is("the larger one stays", x.family(-1), 100);
        rowIs("the larger one stays", x, 1, 0);
        x = Edges.landOf("h0,0*1;q1,1=1;q0,1=1;q1,0=1");
        edges.is("less by one", x.family(-1), 1);
        rowIs("less by one", x, 1);
        x = Edges.landOf("h0,0*5;h0,0*5;h0,0*5;q0,0=5;q0,0=5;q0,0=5");
        edges.is("one each", x.family(-1), 0);
        rowIs("one each", x, 0, 1, 2);
    }

    private static void firstRowOfFamilies() {
        edges.sentence("of several the first as a row by HOMES of CHURCHES");
        NearSeats x = Edges.landOf("h0,0*1;h0,0*1;q3,4=1;q4,3=1;q0,5=1");
        rowIs("0 1 ahead of 0 2, 1 0 and others", x, 0, 1);
        x.seats(1, 0);
        rowIs("0 2 ahead of 2 0", x, 0, 2);
        x.seats(0, 2);
        rowIs("0 0 ahead of all", x, 0, 0);
        x.bar(1, 0, true);
        x.seats(1, 1);
        rowIs("0 1", x, 0, 1);
        x.bar(0, 0, true);
        rowIs("1 2 ahead of 2 1", x, 1, 2);
        x = Edges.landOf("h0,0*1;h9,0*1;q0,9=1;q9,9=1;q0,9=1");
        rowIs("the first home is looked at first", x, 0, 1);
        x = Edges.landOf("h0,0*1;h0,0*1;h0,0*1;q5,0=1;q4,3=2;q3,4=2");
        rowIs("0 1 1 ahead of 0 1 2", x, 0, 1, 1);
    }

    /** Row by row in their order, for all seats 0 .. 5 of two churches and two of a third. */
    private static void allRowsOfSmallLands() {
        edges.sentence("the SENDING of the least MILES of such; of several the first as a row by HOMES of CHURCHES");
        String land = "h0,0*2;h9,0*3;h0,9*1;q3,3=0;s3,3=0;q5,4=2";
        NearSeats twin = Edges.landOf(land);
        int[][] far = {Edges.farOf(twin, 0), Edges.farOf(twin, 1), Edges.farOf(twin, 2)};
        for (int first = 0; first < 6; first++) {
            NearSeats x = Edges.landOf(land);
            x.seats(0, first);
            for (int second = 0; second < 6; second++) {
                boolean barred = second % 2 == 1;
                x.seats(1, second);
                x.bar(1, 0, barred);
                asAllRowsSay(x, far, new int[] {first, second, 2}, barred);
            }
        }
    }

    private static void asAllRowsSay(NearSeats x, int[][] far, int[] seats, boolean barred) {
        int[] heads = {2, 3, 1};
        int least = NONE, found = NONE;
        for (int row = 0; row < 27; row++) {
            int[] church = {row / 9, row / 3 % 3, row % 3}, taken = new int[3];
            int sum = 0;
            boolean is = !(barred && church[1] == 0);
            for (int h = 0; h < 3; h++) {
                taken[church[h]] += heads[h];
                is &= taken[church[h]] <= seats[church[h]];
                sum += heads[h] * far[h][church[h]];
            }
            if (is && (least == NONE || sum < least)) {
                least = sum;
                found = row;
            }
        }
        String what = "seats " + seats[0] + " " + seats[1] + ": ";
        edges.is(what + "miles", x.family(-1), least);
        for (int h = 0; h < 3; h++) {
            edges.is(what + "home " + h, x.family(h), found == NONE ? NONE : found / (h == 0 ? 9 : h == 1 ? 3 : 1) % 3);
        }
    }

    private static void moreThanSevenHomes() {
        edges.sentence("(More than 7 HOMES: STATE.)");
        NearSeats x = new NearSeats();
        for (int c = 0; c < 5; c++) x.church(0, 3, 4, 2);
        for (int h = 0; h < 7; h++) {
            x.home(0, 0, 1);
            edges.is("homes " + (h + 1), x.family(-1), 25 * (h + 1));
        }
        rowIs("seven", x, 0, 0, 1, 1, 2, 2, 3);
        edges.is("no eighth home", x.family(7), UNKNOWN);
        x.home(0, 0, 1);
        edges.is("eight", x.family(-1), STATE);
        edges.is("the first of eight", x.family(0), STATE);
        edges.is("the last of eight", x.family(7), STATE);
        edges.is("no ninth home", x.family(8), UNKNOWN);
        edges.is("no home", x.family(-2), UNKNOWN);
        for (int c = 0; c < 5; c++) x.seats(c, 0);
        edges.is("eight, no sending", x.family(-1), STATE);
        Edges.land(x, "h0,0*1;q3,4=1");
        edges.is("one again", x.family(-1), 25);
        x = new NearSeats();
        for (int h = 0; h < 7; h++) x.home(0, 0, 1);
        x.church(0, 3, 4, 7);
        edges.is("seven", x.family(-1), 175);
        Edges.land(x, "h0,0*1;h0,0*1;q9,0=2;q3,4=2");
        edges.is("what seven took is forgotten", x.family(-1), 50);
        rowIs("what seven took is forgotten", x, 1, 1);
    }

    private static void noFamilies() {
        edges.sentence("FAMILIES: MILES (h -1), the CHURCH of a HOME; NONE: there is no such SENDING. "
            + "UNKNOWN: h; STATE.");
        edges.is("no homes", new NearSeats().family(-1), 0);
        edges.is("no homes, churches", Edges.landOf("q0,0=0").family(-1), 0);
        edges.is("no home 0", Edges.landOf("q0,0=0").family(0), UNKNOWN);
        edges.is("no churches", Edges.landOf("h0,0*1").family(-1), NONE);
        NearSeats x = Edges.landOf("h0,0*3;q0,0=2;q10,0=2");
        edges.is("parted there is one", x.miles(), 100);
        edges.is("whole there is none", x.family(-1), NONE);
        edges.is("of the home", x.family(0), NONE);
        for (int h : new int[] {LOW, -2, 1, HIGH}) edges.is("no home", x.family(h), UNKNOWN);
        x.seats(0, 3);
        x.bar(0, 0, true);
        edges.is("barred from room", x.family(-1), NONE);
        x.bar(0, 0, false);
        for (int h : new int[] {LOW, -2, 1, HIGH}) edges.is("no home", x.family(h), UNKNOWN);
        edges.is("there is one", x.family(-1), 0);
        edges.is("its church", x.family(0), 0);
    }

    private static void evenIs(String what, NearSeats x, int longest, int miles) {
        edges.is(what + ": the longest", x.even(0), longest);
        edges.is(what + ": miles then", x.even(1), miles);
    }

    private static void longestMadeShortest() {
        edges.sentence("the longest FAR that some head goes, made the shortest; "
            + "MILES then: the least of SENDINGS with no longer one");
        NearSeats x = Edges.landOf("h0,0*1;h10,0*1;q12,0=1;s15,0=1");
        edges.is("the least miles have the longest way", x.miles(), 154);
        evenIs("even", x, 144, 194);
        x = Edges.landOf("h0,0*1;h10,0*1;q12,0=2;s15,0=1");
        evenIs("the other head goes as near as it may", x, 144, 148);
        x = Edges.landOf("h0,0*5;q60,60=5");
        evenIs("no choice, the most", x, 7200, 36000);
        x = Edges.landOf("h5,5*5;q5,5=5;q5,6=5");
        evenIs("all at the spot", x, 0, 0);
        x = Edges.landOf("h0,0*2;q1,0=1;q2,0=1;q3,0=1");
        evenIs("a head each", x, 4, 5);
        x.bar(0, 1, true);
        evenIs("a bar", x, 9, 10);
        x.seats(0, 2);
        evenIs("a seat more", x, 1, 2);
        for (int far = 15; far <= 60; far++) {
            x = Edges.landOf("h0,0*1;h10,0*1;q12,0=1;s" + far + ",0=1");
            edges.is("the least miles by the far one", x.miles(), 10 * far + 4);
            evenIs("steps at " + far, x, Math.max(144, 10 * far - 100), 144 + 10 * far - 100);
        }
        x = Edges.landOf("h29,0*1;h30,14*1;s30,14=1;f30,0=1");
        for (int toll = 141; toll < 280; toll += 2) {
            x.toll(toll);
            edges.is("the least miles over the ferry", x.miles(), 10 + toll);
            evenIs("the longest not over the ferry", x, 150, 290);
        }
        x.toll(190);
        evenIs("a limit that is just the longest", x, 150, 290);
        x = Edges.full();
        evenIs("ten homes, five churches", x, 50, 50 + 32 + 18 + 18 + 8 + 2 + 2);
        x = Edges.landOf("h29,0*1;f30,0=1;s29,60=1");
        evenIs("over the ferry", x, 210, 210);
        x.toll(999);
        evenIs("not over the ferry", x, 600, 600);
        x.toll(590);
        evenIs("as far over it", x, 600, 600);
    }

    /** Homes 0, 1 go 180 at the longest (or over the ferry), homes 2, 3 go 180 or, with less miles, 181. */
    private static void longestShorterByOne() {
        edges.sentence("the longest FAR that some head goes, made the shortest");
        for (int toll = 180; toll < 338; toll++) {
            NearSeats x = Edges.landOf("h29,0*1;h30,17*1;h0,20*1;h1,38*1;s30,17=1;f30,0=1;q10,29=1;s0,38=1");
            for (int k = 0; k < 4; k++) {
                x.bar(k / 2, 2 + k % 2, true);
                x.bar(2 + k / 2, k % 2, true);
            }
            x.toll(toll);
            edges.is("the least miles", x.miles(), 10 + toll + 181 + 10);
            evenIs("toll " + toll, x, 180, 180 + 170 + 180 + 162);
        }
    }

    private static void evenWithoutHomesOrSending() {
        edges.sentence("EVEN: the longest FAR (what 0; 0: there are no HOMES), MILES then (1); "
            + "NONE: there is no SENDING. OUTSIDE.");
        evenIs("nothing", new NearSeats(), 0, 0);
        evenIs("no homes", Edges.landOf("q9,9=0"), 0, 0);
        evenIs("no churches", Edges.landOf("h0,0*1"), NONE, NONE);
        evenIs("a seat too few", Edges.landOf("h0,0*2;q0,0=1"), NONE, NONE);
        for (int what : new int[] {LOW, -1, 2, HIGH}) {
            edges.is("what " + what, new NearSeats().even(what), OUTSIDE);
            edges.is("what " + what + ", no sending", Edges.landOf("h0,0*1").even(what), OUTSIDE);
        }
    }

    private static void borderIs(NearSeats x, int p, int q, int a, int b, int c) {
        String what = "border of " + p + ", " + q + ", part ";
        edges.is(what + 0, x.border(p, q, 0), a);
        edges.is(what + 1, x.border(p, q, 1), b);
        edges.is(what + 2, x.border(p, q, 2), c);
    }

    private static void bordersNumbers() {
        edges.sentence("whole numbers without a common divisor");
        NearSeats x = Edges.landOf("q0,0=1;q10,0=1;q1,0=1;q0,60=1;q30,40=1");
        borderIs(x, 0, 1, 1, 0, 5);
        borderIs(x, 0, 2, 2, 0, 1);
        borderIs(x, 0, 3, 0, 1, 30);
        borderIs(x, 0, 4, 3, 4, 125);
        borderIs(x, 1, 2, 2, 0, 11);
        x = Edges.landOf("q0,0=1;q60,60=1;q1,1=1;q59,60=1");
        borderIs(x, 0, 1, 1, 1, 60);
        borderIs(x, 0, 2, 1, 1, 1);
        borderIs(x, 1, 3, 2, 0, 119);
    }

    private static void bordersSign() {
        edges.sentence("the first of a, b that is not 0 above 0");
        NearSeats x = Edges.landOf("q20,20=1;q30,20=1;q20,30=1;q30,10=1;q10,40=1");
        for (int p = 0; p < 5; p++) {
            for (int q = 0; q < 5; q++) {
                if (p == q) continue;
                long a = x.border(p, q, 0), b = x.border(p, q, 1);
                edges.is("of " + p + ", " + q, a > 0 || a == 0 && b > 0 ? 1 : 0, 1);
                for (int which = 0; which < 3; which++) {
                    edges.is("alike of " + q + ", " + p, x.border(q, p, which), x.border(p, q, which));
                }
            }
        }
        borderIs(x, 1, 0, 1, 0, 25);
        borderIs(x, 2, 0, 0, 1, 25);
        borderIs(x, 0, 2, 0, 1, 25);
        borderIs(x, 0, 3, 1, -1, 10);
        borderIs(x, 3, 0, 1, -1, 10);
        borderIs(x, 4, 0, 1, -2, -45);
    }

    private static void bordersByWeights() {
        edges.sentence("a x and b y is c, where FAR and WEIGHT of both are alike");
        NearSeats x = Edges.landOf("h0,0*2;q0,0=1;q10,0=5;q20,0=0");
        edges.is("weight", x.weight(0), 100);
        borderIs(x, 0, 1, 1, 0, 0);
        borderIs(x, 1, 0, 1, 0, 0);
        borderIs(x, 0, 2, 2, 0, 15);
        x = Edges.landOf("h0,0*2;h60,60*5;q0,0=1;q60,60=6;q0,1=0");
        edges.is("weight", x.weight(0), 7200);
        edges.is("weight of one without seats", x.weight(2), 7199);
        borderIs(x, 0, 1, 1, 1, 0);
        borderIs(x, 0, 2, 0, 1, 0);
        borderIs(x, 2, 1, 60, 59, 0);
        x.toll(0);
        borderIs(x, 2, 0, 0, 1, 0);
    }

    private static void bordersLost() {
        edges.sentence("LOST: UNKNOWN; OUTSIDE: which, both are one; "
            + "STATE: one is no SQUARE one (a STEPS one is not either here), both are at one SPOT, "
            + "there is no SENDING.");
        NearSeats x = Edges.landOf("q0,0=1;q10,0=1;s20,0=1;f30,0=1;q0,0=1");
        for (int which = 0; which < 3; which++) {
            for (int k : new int[] {LOW, -1, 5, HIGH}) {
                edges.is("no church", x.border(k, 0, which), LOST);
                edges.is("no church", x.border(0, k, which), LOST);
            }
            for (int c = 0; c < 5; c++) edges.is("both are one", x.border(c, c, which), LOST);
            edges.is("a steps one", x.border(0, 2, which), LOST);
            edges.is("a steps one", x.border(2, 0, which), LOST);
            edges.is("a ferry one", x.border(3, 0, which), LOST);
            edges.is("a ferry one", x.border(0, 3, which), LOST);
            edges.is("neither", x.border(2, 3, which), LOST);
            edges.is("at one spot", x.border(0, 4, which), LOST);
            edges.is("at one spot", x.border(4, 0, which), LOST);
        }
        for (int which : new int[] {LOW, -1, 3, HIGH}) edges.is("which", x.border(0, 1, which), LOST);
        edges.is("no homes: there is a sending", x.border(0, 1, 0), 1);
        edges.is("one of x alike is not at one spot", Edges.landOf("q5,0=0;q5,2=0").border(0, 1, 1), 1);
        edges.is("one of y alike is not at one spot", Edges.landOf("q0,5=0;q2,5=0").border(0, 1, 0), 1);
        x.home(0, 0, 5);
        edges.is("just a sending: weight", x.weight(0) * 1000 + x.weight(1), 500400);
        borderIs(x, 0, 1, 1, 0, 0);
        x.home(0, 0, 1);
        edges.is("no sending", x.border(0, 1, 0), LOST);
    }

    private static void whoOfTheLeast() {
        edges.sentence("of the least FAR and WEIGHT together; of several the least number");
        NearSeats x = Edges.landOf("q0,0=1;q10,0=1;q0,10=1");
        edges.is("between two", x.who(5, 0), 0);
        edges.is("between the two others", x.who(10, 10), 1);
        edges.is("between all", x.who(5, 5), 0);
        edges.is("nearer by one step", x.who(6, 0), 1);
        edges.is("at it", x.who(0, 10), 2);
        x = Edges.landOf("s9,9=1;q9,9=1;f9,9=1");
        edges.is("at one spot", x.who(9, 9), 0);
        edges.is("a square one is nearer", x.who(9, 8), 1);
        x = Edges.landOf("h0,0*2;q0,0=1;q10,0=5");
        edges.is("by the weight both are alike", x.who(0, 0), 0);
        edges.is("by the weight the other", x.who(1, 0), 1);
        x = Edges.landOf("h0,0*1;q0,0=0;q10,0=5");
        edges.is("one without seats has a weight", x.who(0, 0), 0);
        edges.is("one without seats has a weight", x.who(1, 0), 1);
        x = Edges.landOf("h0,0*1;q0,0=5;q10,0=5");
        x.bar(0, 0, true);
        edges.is("a home's bar is not of a spot", x.who(0, 0), 0);
        x = Edges.landOf("f30,0=1;s29,20=1");
        edges.is("over the ferry", x.who(29, 0), 1);
        edges.is("not over it", x.who(30, 0), 0);
    }

    private static void whoWithout() {
        edges.sentence("WHO of a SPOT. OUTSIDE; STATE: there is no SENDING; NONE: there are no CHURCHES.");
        NearSeats x = new NearSeats();
        edges.is("no churches", x.who(0, 0), NONE);
        edges.is("no spot, no churches", x.who(61, 0), OUTSIDE);
        x.home(0, 0, 1);
        edges.is("no sending, no churches", x.who(60, 60), STATE);
        edges.is("no spot, no sending, no churches", x.who(0, -1), OUTSIDE);
        x.church(0, 0, 0, 0);
        edges.is("no sending", x.who(0, 0), STATE);
        x.seats(0, 1);
        edges.is("a sending", x.who(60, 60), 0);
        for (int v : new int[] {LOW, -1, 61, HIGH}) {
            edges.is("no spot", x.who(v, 0), OUTSIDE);
            edges.is("no spot", x.who(0, v), OUTSIDE);
        }
    }

    // ---- 4 churches moved, shut

    private static void eightPlaces() {
        edges.sentence("PLACES, 8 ever, numbered as they come: SPOTS.");
        NearSeats x = Edges.landOf("h60,60*1;q0,0=1");
        for (int p = 0; p < 8; p++) edges.is("place", x.place(p < 7 ? 0 : 50, p), p);
        edges.is("a ninth", x.place(60, 60), FULL);
        edges.is("eight", x.many(2), 8);
        edges.is("to the eighth", x.move(0), 7);
        edges.is("its x", x.ofChurch(0, 1), 50);
        edges.is("its y", x.ofChurch(0, 2), 7);
        edges.is("a move leaves the places", x.many(2), 8);
        Edges.land(x, "h60,60*1;q0,0=1");
        edges.is("a land leaves the places", x.many(2), 8);
        edges.is("8 ever: a new land has no more", x.place(60, 60), FULL);
        edges.is("to the eighth again", x.move(0), 7);
        x = new NearSeats();
        edges.is("of one spot twice", x.place(3, 3), 0);
        edges.is("of one spot twice", x.place(3, 3), 1);
    }

    private static void movesToTheLeast() {
        edges.sentence("A CHURCH MOVES to the PLACE at which MILES are the least; of several the first");
        NearSeats x = Edges.landOf("h0,0*1;q60,60=1");
        x.place(20, 0);
        x.place(5, 0);
        x.place(3, 4);
        x.place(0, 5);
        x.place(10, 0);
        edges.is("the first of three", x.move(0), 1);
        edges.is("its x", x.ofChurch(0, 1), 5);
        edges.is("its y", x.ofChurch(0, 2), 0);
        edges.is("kind and seats stay", x.ofChurch(0, 0) * 10 + x.ofChurch(0, 3), 1);
        edges.is("miles", x.miles(), 25);
        x.place(0, 0);
        edges.is("a better one", x.move(0), 5);
        edges.is("miles", x.miles(), 0);
        x = Edges.landOf("h0,0*1;h20,0*2;q60,0=2;q0,40=1");
        x.place(0, 0);
        x.place(20, 0);
        edges.is("two heads weigh more", x.move(0), 1);
        edges.is("the other is as it was", x.ofChurch(1, 2), 40);
        edges.is("the other", x.move(1), 0);
        edges.is("miles", x.miles(), 0);
        x = Edges.landOf("h29,0*1;f60,0=1");
        x.place(30, 0);
        x.place(10, 0);
        edges.is("with the toll", x.move(0), 1);
        x.toll(0);
        edges.is("without", x.move(0), 0);
    }

    private static void movesIfLess() {
        edges.sentence("if these are less than now");
        NearSeats x = Edges.landOf("h0,0*1;q0,5=1");
        edges.is("no places", x.move(0), NONE);
        x.place(5, 0);
        edges.is("as far", x.move(0), NONE);
        edges.is("it stays", x.ofChurch(0, 1) * 10 + x.ofChurch(0, 2), 5);
        x.place(0, 5);
        edges.is("its own spot", x.move(0), NONE);
        x.place(0, 6);
        edges.is("farther", x.move(0), NONE);
        x.place(4, 2);
        edges.is("less", x.move(0), 3);
        edges.sentence("A CHURCH MOVES: the PLACE; NONE: none is better (no SENDING now: any SENDING is). UNKNOWN.");
        edges.is("again", x.move(0), NONE);
        for (int c : new int[] {LOW, -1, 1, HIGH}) edges.is("no church", x.move(c), UNKNOWN);
        x.home(0, 0, 1);
        x.place(0, 0);
        edges.is("no sending at any place", x.move(0), NONE);
        edges.is("it stays", x.ofChurch(0, 1), 4);
        edges.is("no sending, no church", x.move(1), UNKNOWN);
        x = Edges.landOf("q9,9=1");
        x.place(0, 0);
        edges.is("no homes", x.move(0), NONE);
        x = Edges.landOf("h0,0*1;q0,5=1;q60,60=1;q60,60=0");
        x.place(0, 0);
        edges.is("one without seats", x.move(2), NONE);
        edges.is("one that now is not gone to", x.move(1), 0);
    }

    private static void openSets() {
        edges.sentence("MILES, if just a set of CHURCHES has its SEATS, others none");
        NearSeats x = Edges.landOf("h0,0*2;q0,0=1;q1,0=1;q2,0=2");
        int[] open = {NONE, NONE, NONE, 1, 8, 4, 5, 1};
        for (int set = 0; set < 8; set++) edges.is("set " + set, x.open(set), open[set]);
        edges.is("the full one is now's", x.open(7), x.miles());
        edges.is("seats stay", x.many(4), 4);
        edges.sentence("OPEN: MILES of a set; NONE: there is no SENDING. OUTSIDE: a bit of none.");
        for (int set : new int[] {8, 9, 15, 16, 1 << 30, LOW, LOW + 1, -1, -8, HIGH}) {
            edges.is("set " + set, x.open(set), OUTSIDE);
        }
        edges.is("nothing: the empty set", new NearSeats().open(0), 0);
        edges.is("nothing: a bit", new NearSeats().open(1), OUTSIDE);
        edges.is("no homes: the empty set", Edges.landOf("q0,0=1").open(0), 0);
        edges.is("no churches: the empty set", Edges.landOf("h0,0*1").open(0), NONE);
        x = Edges.full();
        edges.is("five churches: the full set", x.open(31), x.miles());
        edges.is("five churches: a bit of none", x.open(32), OUTSIDE);
        x.bar(0, 0, true);
        edges.is("bars count", x.open(31), x.miles());
    }

    private static void bestSets() {
        edges.sentence("of all sets of k CHURCHES that of the least such MILES; of several the least as a number");
        NearSeats x = Edges.landOf("h0,0*2;q0,0=1;q1,0=1;q2,0=2;q1,0=1;q2,0=9");
        edges.is("of none", x.best(0), NONE);
        edges.is("of one: 4 ahead of 16", x.best(1), 4);
        edges.is("of two: 3 ahead of 9", x.best(2), 3);
        edges.is("of three: 7 ahead of others", x.best(3), 7);
        edges.is("of all", x.best(5), 31);
        x.seats(1, 0);
        edges.is("of two: 9", x.best(2), 9);
        edges.is("of three: 11 ahead of 13", x.best(3), 11);
        edges.sentence("BEST of k: the set; NONE: there is no SENDING by any. "
            + "OUTSIDE: k is not 0 .. how many CHURCHES there are.");
        for (int k : new int[] {LOW, -1, 6, HIGH}) edges.is("k " + k, x.best(k), OUTSIDE);
        edges.is("nothing, of none", new NearSeats().best(0), 0);
        edges.is("nothing, of one", new NearSeats().best(1), OUTSIDE);
        edges.is("no churches, of none", Edges.landOf("h0,0*1").best(0), NONE);
        edges.is("no churches, of one", Edges.landOf("h0,0*1").best(1), OUTSIDE);
        x = Edges.landOf("q0,0=0;q0,0=9;q0,0=9");
        int[] least = {0, 1, 3, 7};
        for (int k = 0; k < 4; k++) edges.is("no homes, of " + k, x.best(k), least[k]);
        edges.is("no homes, of four", x.best(4), OUTSIDE);
        x.home(0, 0, 5);
        int[] with = {NONE, 2, 3, 7};
        for (int k = 0; k < 4; k++) edges.is("of " + k, x.best(k), with[k]);
        x.home(0, 0, 5);
        int[] more = {NONE, NONE, 6, 7};
        for (int k = 0; k < 4; k++) edges.is("of " + k, x.best(k), more[k]);
        x.seats(1, 4);
        x.seats(2, 4);
        edges.is("not by all", x.best(3), NONE);
        edges.is("seats stay", x.many(4), 8);
    }
}
