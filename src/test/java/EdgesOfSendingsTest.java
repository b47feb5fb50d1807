/** The document's section 2 and promises 11 to 15: sendings, few, weights, lines, proofs. */
public final class EdgesOfSendingsTest {
    private static final int LOW = Edges.LOW, HIGH = Edges.HIGH;
    private static final int UNKNOWN = Edges.UNKNOWN, OUTSIDE = Edges.OUTSIDE, NONE = Edges.NONE;
    private static final int MOST = 1000000000;
    private static Edges edges;

    public static void main(String[] args) throws Exception {
        edges = new Edges();
        noHomes();
        noSending();
        partedHeads();
        noMoreThanItsSeats();
        barredHomes();
        leastOfAllSendings();
        milesFollowChanges();
        fewIsMoreThanAllSeats();
        fewLeavesOutWhatAllAreBarredFrom();
        fewIsTheLeast();
        fewGoesWithNoSending();
        weightOfASeatMore();
        weightWithoutSending();
        lineOfTheLeast();
        lineWithoutSending();
        allSendingsOfSmallLands();
        proofIsASending();
        proofsNumbers();
        proofGoesToTheLeast();
        proofsLength();
        proofsCells();
        edges.end();
    }

    private static void noHomes() {
        edges.sentence("MILES (0: there are no HOMES); NONE: there is no SENDING.");
        edges.is("no churches either", new NearSeats().miles(), 0);
        edges.is("a church with seats", Edges.landOf("q1,1=9").miles(), 0);
        edges.is("a church without seats", Edges.landOf("q1,1=0").miles(), 0);
        edges.is("a home", Edges.landOf("h1,1*1").miles(), NONE);
        edges.is("a home at a church: no miles, but a sending", Edges.landOf("h1,1*5;q1,1=5").miles(), 0);
    }

    private static void noSending() {
        edges.sentence("NONE: there is no SENDING.");
        edges.is("no churches", Edges.landOf("h0,0*1").miles(), NONE);
        edges.is("a church without seats", Edges.landOf("h0,0*1;q0,0=0").miles(), NONE);
        edges.is("five churches without seats",
            Edges.landOf("h0,0*1;q0,0=0;q0,0=0;s0,0=0;s0,0=0;f0,0=0").miles(), NONE);
        edges.is("a seat too few", Edges.landOf("h0,0*5;q0,0=2;q0,0=2").miles(), NONE);
        edges.is("just enough", Edges.landOf("h0,0*5;q0,0=2;q0,0=3").miles(), 0);
        NearSeats x = Edges.landOf("h0,0*1;h0,0*1;q0,0=1;q9,0=1");
        x.bar(0, 0, true);
        x.bar(1, 0, true);
        edges.is("seats enough, but barred", x.miles(), NONE);
        x = Edges.landOf("h5,0*1;h4,0*1;h0,0*1;q0,0=1;q5,0=1;q9,0=1");
        for (int h = 0; h < 3; h++) x.bar(h, 2, true);
        edges.is("all are barred from the seat that is left", x.miles(), NONE);
        x.bar(0, 2, false);
        edges.is("who has a nearer one may take it", x.miles(), 16 + 1 + 0);
    }

    private static void partedHeads() {
        edges.sentence("each HOME's HEADS parted over CHURCHES from which it is not BARRED");
        NearSeats x = Edges.landOf("h0,0*5;q1,0=1;q2,0=1;q3,0=1;q4,0=1;q5,0=1");
        edges.is("a head to each", x.miles(), 1 + 4 + 9 + 16 + 25);
        x.seats(0, 2);
        edges.is("the farthest is spared", x.miles(), 1 + 1 + 4 + 9 + 16);
        x.bar(0, 0, true);
        edges.is("four seats for five", x.miles(), NONE);
        x.seats(4, 2);
        edges.is("without the nearest", x.miles(), 4 + 9 + 16 + 25 + 25);
    }

    private static void noMoreThanItsSeats() {
        edges.sentence("no CHURCH with more than its SEATS");
        NearSeats x = Edges.landOf("h0,0*3;q0,0=2;q10,0=50");
        edges.is("two sit, one goes", x.miles(), 100);
        x.seats(0, 3);
        edges.is("all sit", x.miles(), 0);
        x.seats(0, 0);
        edges.is("none sits", x.miles(), 300);
        x = new NearSeats();
        for (int h = 0; h < 10; h++) x.home(0, 0, 5);
        x.church(0, 60, 60, 50);
        edges.is("fifty heads, fifty seats, the longest way", x.miles(), 360000);
        x.seats(0, 49);
        edges.is("fifty heads, forty-nine seats", x.miles(), NONE);
    }

    private static void barredHomes() {
        edges.sentence("A SENDING: each HOME's HEADS parted over CHURCHES from which it is not BARRED");
        NearSeats x = Edges.landOf("h0,0*2;h0,0*1;q0,0=50;q3,4=50");
        x.bar(0, 0, true);
        edges.is("the first goes", x.miles(), 50);
        x.bar(0, 1, true);
        edges.is("barred from all", x.miles(), NONE);
        x.bar(0, 0, false);
        edges.is("not from the first", x.miles(), 0);
        x.bar(0, 1, false);
        edges.is("nobody", x.miles(), 0);
    }

    private static void leastOfAllSendings() {
        edges.sentence("MILES: the least of all SENDINGS.");
        NearSeats x = Edges.landOf("h0,0*1;h10,0*1;h20,0*1;h0,0*1;q0,0=1;q10,0=1;q20,0=1;q30,0=1");
        edges.is("each moves one on", x.miles(), 300);
        x = Edges.landOf("h0,0*1;h1,0*1;q1,0=1;q3,0=1");
        edges.is("the nearest first were 1 and 4", x.miles(), 5);
        x = Edges.landOf("h1,0*1;h0,0*1;q1,0=1;q3,0=1");
        edges.is("the nearest first were 0 and 9", x.miles(), 5);
        x = Edges.landOf("h0,0*2;h10,0*1;h9,0*1;h0,0*2;q0,0=2;q10,0=2;q20,0=2");
        x.bar(0, 2, true);
        x.bar(3, 1, true);
        x.bar(3, 2, true);
        edges.is("two move on, one each of two homes behind them", x.miles(), 2 * 100 + 100 + 121);
        x = Edges.landOf("h0,0*1;h1,0*1;h10,0*2;h0,0*2;q0,0=2;q10,0=2;q20,0=2");
        x.bar(0, 2, true);
        x.bar(1, 2, true);
        x.bar(3, 1, true);
        x.bar(3, 2, true);
        edges.is("one each of two homes moves on, two behind them", x.miles(), 100 + 81 + 2 * 100);
    }

    private static void milesFollowChanges() {
        edges.sentence("THE TOLL (0 .. 999; 200 at first)");
        NearSeats x = Edges.landOf("h29,0*1;f30,0=1;s29,20=0");
        edges.is("over", x.miles(), 210);
        x.toll(0);
        edges.is("another toll", x.miles(), 10);
        x.toll(999);
        x.seats(1, 1);
        edges.is("another's seats", x.miles(), 200);
        x.bar(0, 1, true);
        edges.is("a bar", x.miles(), 1009);
        x.home(30, 0, 1);
        edges.is("another home", x.miles(), 1009 + 210);
        x.bar(0, 1, false);
        edges.is("no bar", x.miles(), 200);
        x.home(30, 0, 1);
        edges.is("a third home", x.miles(), NONE);
        x.church(0, 30, 1, 1);
        edges.is("a third church", x.miles(), 201);
        x.place(30, 0);
        x.move(2);
        edges.is("moved", x.miles(), 200);
    }

    private static void fewIsMoreThanAllSeats() {
        edges.sentence("sets of HOMES whose HEADS are more than all SEATS of the CHURCHES");
        edges.is("no homes", new NearSeats().few(), 0);
        edges.is("no homes, a church without seats", Edges.landOf("q0,0=0").few(), 0);
        edges.is("no churches", Edges.landOf("h0,0*1").few(), 1);
        edges.is("no seats", Edges.landOf("h0,0*1;q0,0=0").few(), 1);
        edges.is("as many seats as heads", Edges.landOf("h0,0*5;q0,0=2;q0,0=3").few(), 0);
        edges.is("a seat less", Edges.landOf("h0,0*5;q0,0=2;q0,0=2").few(), 1);
        edges.is("both homes", Edges.landOf("h0,0*2;h0,0*2;q0,0=3").few(), 3);
        NearSeats x = new NearSeats();
        for (int h = 0; h < 10; h++) x.home(0, 0, 5);
        x.church(0, 0, 0, 49);
        edges.is("all ten homes", x.few(), 1023);
        x.seats(0, 50);
        edges.is("none", x.few(), 0);
        x.seats(0, 44);
        edges.is("nine homes", x.few(), 511);
        x = Edges.full();
        edges.is("ten homes, five churches", x.few(), 0);
        for (int c = 0; c < 5; c++) x.seats(c, 1);
        edges.is("six of them", x.few(), 63);
        Edges.land(x, "h0,0*3;q0,0=1;q0,0=1");
        edges.is("seats of churches of before are none", x.few(), 1);
    }

    private static void fewLeavesOutWhatAllAreBarredFrom() {
        edges.sentence("from which some HOME of the set is not BARRED");
        NearSeats x = Edges.landOf("h0,0*2;h0,0*2;q0,0=2;q0,0=50");
        edges.is("none", x.few(), 0);
        x.bar(0, 1, true);
        edges.is("home 1 is not barred", x.few(), 0);
        x.bar(1, 1, true);
        edges.is("both are barred", x.few(), 3);
        x.bar(1, 1, false);
        x.bar(1, 0, true);
        edges.is("each has its own", x.few(), 0);
        x.seats(0, 1);
        edges.is("home 0 alone", x.few(), 1);
        x.seats(0, 2);
        x.seats(1, 1);
        edges.is("home 1 alone", x.few(), 2);
        x.bar(0, 1, false);
        edges.is("home 0 is not barred from either", x.few(), 2);
    }

    private static void fewIsTheLeast() {
        edges.sentence("if there is no SENDING there is one; the least as a number is told");
        NearSeats x = Edges.landOf("h0,0*1;h0,0*2;h0,0*1;q0,0=2");
        x.bar(2, 0, true);
        edges.is("homes 0, 1 (3) and home 2 (4): 3", x.few(), 3);
        x.seats(0, 1);
        edges.is("home 1 (2) and home 2 (4): 2", x.few(), 2);
        x.seats(0, 3);
        edges.is("home 2: 4", x.few(), 4);
        x.bar(2, 0, false);
        edges.is("all", x.few(), 7);
        x.seats(0, 4);
        edges.is("there is none", x.few(), 0);
    }

    private static void fewGoesWithNoSending() {
        edges.sentence("FEW: the set; 0: there is none.");
        for (int bars = 0; bars < 64; bars++) {
            NearSeats x = Edges.landOf("h0,0*2;h1,0*1;h2,0*2;q0,0=3;s1,0=2");
            for (int k = 0; k < 6; k++) x.bar(k / 2, k % 2, (bars >> k & 1) == 1);
            edges.is("few is 0, if there is a sending: " + bars, x.few() == 0 ? 1 : 0, x.miles() == NONE ? 0 : 1);
        }
    }

    private static void weightOfASeatMore() {
        edges.sentence("by how much MILES were less, had it one SEAT more");
        NearSeats x = Edges.landOf("h0,0*3;q0,0=1;q3,0=1;q6,0=5");
        edges.is("one at each", x.miles(), 9 + 36);
        edges.is("of the first", x.weight(0), 36);
        edges.is("of the second", x.weight(1), 27);
        edges.is("of one with seats left", x.weight(2), 0);
        x.seats(2, 1);
        edges.is("full, but nobody would come", x.weight(2), 0);
        x.seats(1, 0);
        x.seats(2, 2);
        edges.is("without seats", x.weight(1), 27);
        x.bar(0, 1, true);
        edges.is("without seats, all are barred", x.weight(1), 0);
        edges.is("no homes", Edges.landOf("q0,0=0").weight(0), 0);
        x = Edges.landOf("h0,0*1;h0,0*1;h10,0*1;q0,0=1;q10,0=1;q20,0=1");
        edges.is("by a chain", x.weight(0), 200);
        edges.is("by a chain", x.weight(1), 100);
        edges.is("the chain's end", x.weight(2), 0);
        x = new NearSeats();
        for (int h = 0; h < 10; h++) x.home(0, 0, 5);
        x.church(0, 0, 0, 49);
        x.church(0, 60, 60, 50);
        edges.is("the most", x.weight(0), 7200);
        x.seats(0, 50);
        edges.is("of one with fifty seats", x.weight(0), 0);
        edges.is("its seats are as they were", x.many(4), 100);
    }

    private static void weightWithoutSending() {
        edges.sentence("WEIGHT of a CHURCH; NONE: there is no SENDING. UNKNOWN.");
        NearSeats x = Edges.landOf("h0,0*2;q0,0=1");
        edges.is("a seat more were enough, but now is none", x.weight(0), NONE);
        for (int c : new int[] {LOW, -1, 1, HIGH}) edges.is("no church", x.weight(c), UNKNOWN);
        x.seats(0, 2);
        edges.is("now there is one", x.weight(0), 0);
        for (int c : new int[] {LOW, -1, 1, HIGH}) edges.is("no church", x.weight(c), UNKNOWN);
        edges.is("no churches", new NearSeats().weight(0), UNKNOWN);
    }

    private static void lineOfTheLeast() {
        edges.sentence("the CHURCHES (from which it is not BARRED) of the least FAR and WEIGHT together");
        NearSeats x = Edges.landOf("h0,0*3;q0,0=1;q3,0=1;q6,0=5;q7,0=5");
        edges.is("36 and 0, 27 and 9, 0 and 36, but not 49", x.line(0), 7);
        x.bar(0, 0, true);
        edges.is("27 and 9, 0 and 36", x.line(0), 6);
        x = Edges.landOf("h0,0*1;q1,0=0;q2,0=9;q0,2=9;q3,0=9;q2,0=0");
        edges.is("the nearest without seats weighs 3; the last without seats none", x.line(0), 1 + 2 + 4 + 16);
        edges.is("alone", Edges.landOf("h0,0*1;q60,60=1").line(0), 1);
        x = Edges.landOf("h0,0*1;q5,5=1;q5,5=1;q5,5=1;q5,5=1;q5,5=1");
        edges.is("all five", x.line(0), 31);
        x = Edges.landOf("h0,0*1;h9,9*1;q0,0=5;q9,9=5");
        x.bar(0, 0, true);
        edges.is("a bar of another home is not its own", x.line(1), 2);
        edges.is("the barred home", x.line(0), 2);
        x = Edges.landOf("h0,0*1;h0,0*1;h0,0*1;q0,0=5;q1,0=5;q2,0=5");
        x.bar(1, 0, true);
        x.bar(2, 0, true);
        x.bar(2, 1, true);
        edges.is("each by its own bars", x.line(0) * 100 + x.line(1) * 10 + x.line(2), 124);
        x = Edges.full();
        edges.is("the last of ten", x.line(9), 1 << 4);
        x.bar(9, 4, true);
        edges.is("the last of ten, barred from the last", x.line(9), 1 << 3);
    }

    private static void lineWithoutSending() {
        edges.sentence("LINE of a HOME, as a set; NONE: there is no SENDING. UNKNOWN.");
        NearSeats x = Edges.landOf("h0,0*1;h0,0*1;q0,0=1");
        edges.is("none", x.line(0), NONE);
        for (int h : new int[] {LOW, -1, 2, HIGH}) edges.is("no home", x.line(h), UNKNOWN);
        x.seats(0, 2);
        edges.is("there is one", x.line(1), 1);
        for (int h : new int[] {LOW, -1, 2, HIGH}) edges.is("no home", x.line(h), UNKNOWN);
        edges.is("no homes", new NearSeats().line(0), UNKNOWN);
    }

    private static final String[] SMALL = {"h0,0*2;h9,0*1;h20,0*1;q0,0=%d;q10,0=%d;q20,0=%d",
        "h5,5*1;h6,5*2;h40,5*1;s6,5=%d;f35,5=%d;q8,9=%d", "h0,0*1;h0,0*1;h0,0*2;s5,5=%d;s5,5=%d;q0,9=%d",
        "h30,1*3;h29,1*1;h1,1*1;f29,2=%d;f30,2=%d;q15,1=%d"};

    /** Each sentence by its own words, over all ways to send the heads, for all seats 0 .. 3 of three churches. */
    private static void allSendingsOfSmallLands() {
        edges.sentence("A SENDING: each HOME's HEADS parted over CHURCHES from which it is not BARRED, "
            + "no CHURCH with more than its SEATS.");
        for (String small : SMALL) {
            for (int seats = 0; seats < 64; seats++) {
                NearSeats x = Edges.landOf(String.format(small, seats & 3, seats >> 2 & 3, seats >> 4));
                int[][] far = headByHead(x);
                asAllSendingsSay(x, far, "seats " + seats);
                int h = seats % 3, c = seats % 2;
                x.bar(h, c, true);
                for (int k = 0, n = x.ofHome(h, 2), first = firstHead(x, h); k < n; k++) far[first + k][c] = HIGH;
                asAllSendingsSay(x, far, "a bar, seats " + seats);
            }
        }
    }

    private static int firstHead(NearSeats x, int h) {
        int heads = 0;
        for (int k = 0; k < h; k++) heads += x.ofHome(k, 2);
        return heads;
    }

    /** Of each single head how far each church is. */
    private static int[][] headByHead(NearSeats x) {
        int[][] far = new int[x.many(3)][];
        for (int h = 0, k = 0; h < 3; h++) {
            for (int n = x.ofHome(h, 2); n > 0; n--) far[k++] = Edges.farOf(x, h);
        }
        return far;
    }

    private static void asAllSendingsSay(NearSeats x, int[][] far, String what) {
        int[] room = {x.ofChurch(0, 3), x.ofChurch(1, 3), x.ofChurch(2, 3)};
        int now = leastOfAll(far, room, HIGH - 1);
        edges.is(what + ": miles", x.miles(), now);
        int shortest = 0;
        while (now != NONE && leastOfAll(far, room, shortest) == NONE) shortest++;
        edges.is(what + ": even", x.even(0), now == NONE ? NONE : shortest);
        edges.is(what + ": miles then", x.even(1), now == NONE ? NONE : leastOfAll(far, room, shortest));
        for (int c = 0; c < 3; c++) {
            room[c]++;
            edges.is(what + ": weight", x.weight(c), now == NONE ? NONE : now - leastOfAll(far, room, HIGH - 1));
            room[c]--;
        }
    }

    /** The least miles (or NONE) of all ways to send head by head to three churches, none farther than the limit. */
    private static int leastOfAll(int[][] far, int[] room, int limit) {
        int least = NONE;
        for (int way = 0; way < Math.pow(3, far.length); way++) {
            int[] taken = new int[3];
            int sum = 0;
            boolean is = true;
            for (int k = 0, rest = way; k < far.length && is; k++, rest /= 3) {
                int c = rest % 3;
                is = ++taken[c] <= room[c] && far[k][c] <= limit;
                sum += far[k][c];
            }
            if (is && (least == NONE || sum < least)) least = sum;
        }
        return least;
    }

    /** Two homes at their churches, of two seats each: heads 2 and 1. */
    private static NearSeats pair() {
        return Edges.landOf("h0,0*2;h10,0*1;q0,0=2;q10,0=2");
    }

    private static void proofIs(NearSeats x, int want, int... cells) {
        edges.is("proof " + java.util.Arrays.toString(cells), Edges.proof(x, cells), want);
    }

    private static void proofIsASending() {
        edges.sentence("it HOLDS, if that is a SENDING");
        NearSeats x = pair();
        proofIs(x, 1, 2, 0, 0, 1, 0, 0);
        proofIs(x, 0, 1, 0, 0, 1, 0, 0);
        proofIs(x, 0, 3, 0, 0, 1, 0, 0);
        proofIs(x, 0, 2, 0, 0, 0, 0, 0);
        proofIs(x, 0, 2, 0, 0, 2, 0, 0);
        proofIs(x, 0, 3, -1, 0, 1, 0, 0);
        proofIs(x, 0, -1, 3, 0, 1, 0, 0);
        proofIs(x, 0, 2, 0, -1, 2, 0, 0);
        proofIs(x, 0, HIGH, LOW + 3, 0, 1, 0, 0);
        proofIs(x, 0, 2 + HIGH, LOW + 1, 0, 1, 0, 0);
        x.seats(0, 1);
        proofIs(x, 0, 2, 0, 0, 1, 0, 0);
        proofIs(x, 0, 2, 0, 0, 1, 100, 0);
        proofIs(x, 1, 1, 1, 0, 1, 100, 0);
        x.seats(0, 2);
        x.bar(0, 0, true);
        proofIs(x, 0, 2, 0, 0, 1, 0, 0);
        x.seats(1, 3);
        proofIs(x, 1, 0, 2, 0, 1, 0, 0);
        x = Edges.landOf("h0,0*1;q0,0=1");
        x.bar(0, 0, true);
        proofIs(x, 0, 1, 0);
        x = Edges.landOf("h0,0*5;q0,0=5");
        proofIs(x, 1, 5, 0);
        x.bar(0, 0, true);
        proofIs(x, 0, 5, 0);
        proofIs(x, 0, 0, 0);
    }

    private static void proofsNumbers() {
        edges.sentence("the numbers are 0 to 1000000000, 0 where SEATS are left");
        NearSeats x = Edges.landOf("h0,0*1;h0,0*1;q0,0=1;q0,0=1");
        for (int v : new int[] {0, 1, MOST - 1, MOST}) proofIs(x, 1, 1, 0, 0, 1, v, v);
        for (int v : new int[] {-1, MOST + 1, LOW, HIGH}) {
            proofIs(x, 0, 1, 0, 0, 1, v, v);
            proofIs(x, 0, 1, 0, 0, 1, 0, v);
            proofIs(x, 0, 1, 0, 0, 1, v, 0);
        }
        x.seats(0, 2);
        proofIs(x, 1, 1, 0, 0, 1, 0, 0);
        proofIs(x, 0, 1, 0, 0, 1, 1, 1);
        x.seats(0, 1);
        x.seats(1, 2);
        proofIs(x, 0, 1, 0, 0, 1, 1, 1);
        x = Edges.landOf("h0,0*1;q0,0=1;q30,40=0;q30,40=1");
        proofIs(x, 1, 1, 0, 0, 0, 0, 0);
        proofIs(x, 1, 1, 0, 0, 0, MOST, 0);
        proofIs(x, 0, 1, 0, 0, 0, MOST + 1, 0);
        proofIs(x, 0, 1, 0, 0, 0, 0, 1);
        proofIs(x, 1, 1, 0, 0, 2500, 0, 0);
        proofIs(x, 0, 1, 0, 0, 2501, 1, 0);
        x = Edges.landOf("q0,0=0;q0,0=1");
        proofIs(x, 1, 0, 0);
        proofIs(x, 1, MOST, 0);
        proofIs(x, 0, MOST + 1, 0);
        proofIs(x, 0, -1, 0);
        proofIs(x, 0, 0, 1);
        x = Edges.landOf("h0,0*1;h60,60*1;q0,0=1;q60,60=1");
        proofIs(x, 1, 1, 0, 0, 1, MOST, MOST);
        proofIs(x, 1, 1, 0, 0, 1, MOST, MOST - 7200);
        proofIs(x, 0, 1, 0, 0, 1, MOST, MOST - 7201);
        proofIs(x, 0, 0, 1, 1, 0, MOST, MOST);
    }

    private static void proofGoesToTheLeast() {
        edges.sentence("each head goes where FAR and the number are the least together for its HOME");
        NearSeats x = Edges.landOf("h0,0*2;h10,0*1;q0,0=1;q10,0=2");
        proofIs(x, 1, 1, 1, 0, 1, 100, 0);
        proofIs(x, 0, 1, 1, 0, 1, 99, 0);
        proofIs(x, 0, 1, 1, 0, 1, 101, 0);
        proofIs(x, 0, 0, 2, 1, 0, 100, 0);
        proofIs(x, 0, 0, 2, 1, 0, 0, 0);
        proofIs(x, 1, 1, 1, 0, 1, 101, 1);
        proofIs(x, 0, 1, 1, 0, 1, 101, 0);
        edges.sentence("(of CHURCHES from which it is not BARRED)");
        x = Edges.landOf("h0,0*1;q0,0=1;q3,4=1");
        proofIs(x, 0, 0, 1, 0, 0);
        x.bar(0, 0, true);
        proofIs(x, 1, 0, 1, 0, 0);
        x.bar(0, 0, false);
        x.bar(0, 1, true);
        proofIs(x, 1, 1, 0, 0, 0);
        proofIs(x, 1, 1, 0, MOST, 0);
    }

    private static void proofsLength() {
        edges.sentence("OUTSIDE: n is not HOMES times CHURCHES and CHURCHES.");
        NearSeats x = pair();
        x.sheet(0, Edges.BYTES, 80);
        for (int n = 0; n <= 80; n++) edges.is("n of " + n, x.check(0, Edges.BYTES, 0, n), n == 6 ? 0 : OUTSIDE);
        x = Edges.full();
        x.sheet(0, Edges.BYTES, 55);
        for (int h = 0; h < 10; h++) x.put(0, h * 5 + Math.min(h, 4), 1);
        edges.is("the largest: the last church has too few seats", x.check(0, Edges.BYTES, 0, 55), 0);
        edges.is("one less", x.check(0, Edges.BYTES, 0, 54), OUTSIDE);
        x.seats(4, 50);
        edges.is("the largest holds", x.check(0, Edges.BYTES, 0, 55), 1);
        x = new NearSeats();
        x.sheet(0, Edges.INTS, 2);
        edges.is("no homes, no churches", x.check(0, Edges.INTS, 0, 0), 1);
        edges.is("no homes, no churches, a cell", x.check(0, Edges.INTS, 0, 1), OUTSIDE);
        x.home(0, 0, 1);
        edges.is("a home, no churches: no sending", x.check(0, Edges.INTS, 2, 0), 0);
        edges.is("a home, no churches, a cell", x.check(0, Edges.INTS, 0, 1), OUTSIDE);
    }

    private static void proofsCells() {
        edges.sentence("n cells of a SHEET from i on, taken as a row of a LANE: "
            + "HOME by HOME how many go to each CHURCH");
        NearSeats x = Edges.landOf("h0,0*2;h10,0*1;q0,0=1;q10,0=2");
        int[] cells = {9, 1, 1, 0, 1, 100, 0, 9};
        for (int lane = 0; lane < 3; lane++) {
            Edges.row(x, lane, lane, cells);
            edges.is("from 1 on", x.check(lane, lane, 1, 6), 1);
            edges.is("from 0 on", x.check(lane, lane, 0, 6), 0);
            edges.is("from 2 on", x.check(lane, lane, 2, 6), 0);
            edges.is("too far", x.check(lane, lane, 3, 6), Edges.INDEX);
        }
        Edges.row(x, 0, Edges.BYTES, 1, 1, 0, 1, 100 + 256, 0);
        edges.is("a cell is what its lane left of it", x.check(0, Edges.BYTES, 0, 6), 1);
        Edges.row(x, 0, Edges.SHORTS, 1, 1, 0, 1, 100 + 256, 0);
        edges.is("a cell is what its lane left of it", x.check(0, Edges.SHORTS, 0, 6), 0);
        edges.is("a proof changes nothing", x.miles(), 100);
        edges.is("the cells are as they were", x.cell(0, 4, Edges.SHORTS), 356);
    }
}
