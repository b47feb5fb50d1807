/** Each promise by its number: ordinary inputs, the edges that the document names, wrong inputs. */
public final class PromisesTest {
    private static final Due DUE = new Due();
    private static final int LOW = Integer.MIN_VALUE, HIGH = Integer.MAX_VALUE;
    private static final int UNKNOWN = -1, OUTSIDE = -2, STATE = -3, FULL = -4, NONE = -9;
    private static final int NULL = -11, CAST = -12, INDEX = -13, SIZE = -14;
    private static final long LOST = Long.MIN_VALUE;
    private static int promise;

    private static void due(String call, long got, long want) {
        DUE.is("promise " + promise + ": " + call, got, want);
    }

    private static NearSeats begin(int number) {
        promise = number;
        return new NearSeats();
    }

    /** Two homes at the two churches, of which the first has a seat too few: 100 miles. */
    private static NearSeats tight(int number) {
        NearSeats x = begin(number);
        x.home(0, 0, 2);
        x.home(10, 0, 1);
        x.church(1, 0, 0, 1);
        x.church(1, 10, 0, 2);
        return x;
    }

    /** The least miles have the longest way: 154 by ways of 150 and 4, 194 by ways of 144 and 50. */
    private static NearSeats uneven(int number) {
        NearSeats x = begin(number);
        x.home(0, 0, 1);
        x.home(10, 0, 1);
        x.church(0, 12, 0, 1);
        x.church(1, 15, 0, 1);
        return x;
    }

    private static void write(NearSeats x, int k, int lane, String text) {
        x.sheet(k, lane, text.length());
        for (int i = 0; i < text.length(); i++) {
            x.put(k, i, text.charAt(i));
        }
    }

    private static int landBy(NearSeats x, String text) {
        write(x, 3, 1, text);
        return x.land(3, 1, 0, text.length());
    }

    private static void row(NearSeats x, int k, int lane, int... cells) {
        x.sheet(k, lane, cells.length);
        for (int i = 0; i < cells.length; i++) {
            x.put(k, i, cells[i]);
        }
    }

    private static int checked(NearSeats x, int... cells) {
        row(x, 0, 2, cells);
        return x.check(0, 2, 0, cells.length);
    }

    private static void p1() {
        NearSeats x = begin(1);
        for (int what = 0; what < 5; what++) {
            due("many", x.many(what), 0);
        }
        due("trace", x.trace(), 0);
        due("fault", x.fault(), 0);
        due("miles", x.miles(), 0);
        due("few", x.few(), 0);
        due("ofHome", x.ofHome(0, 0), UNKNOWN);
        due("ofChurch", x.ofChurch(0, 0), UNKNOWN);
        for (int k = 0; k < 4; k++) {
            due("lose", x.lose(k), 0);
        }
        due("toll", x.toll(3), 200);
        due("even 0", x.even(0), 0);
        due("even 1", x.even(1), 0);
        due("open", x.open(0), 0);
        due("best", x.best(0), 0);
        due("who", x.who(0, 0), NONE);
    }

    private static void p2() {
        NearSeats x = begin(2);
        int[][] wrong = {{-1, 0, 1}, {0, -1, 1}, {61, 0, 1}, {0, 61, 1}, {0, 0, 0}, {0, 0, 6}, {LOW, 0, 1},
            {HIGH, 0, 1}, {0, LOW, 1}, {0, HIGH, 1}, {0, 0, LOW}, {0, 0, HIGH}};
        for (int[] w : wrong) {
            due("home wrong", x.home(w[0], w[1], w[2]), OUTSIDE);
        }
        due("many", x.many(0), 0);
        due("home", x.home(0, 0, 1), 0);
        due("home", x.home(60, 60, 5), 1);
        due("x", x.ofHome(1, 0), 60);
        due("y", x.ofHome(1, 1), 60);
        due("heads", x.ofHome(1, 2), 5);
        for (int h = 2; h < 10; h++) {
            due("home", x.home(h, h, 1), h);
        }
        due("eleventh", x.home(1, 1, 1), FULL);
        due("outside before full", x.home(1, 1, 6), OUTSIDE);
        due("many", x.many(0), 10);
    }

    private static void p3() {
        NearSeats x = begin(3);
        int[][] wrong = {{-1, 0, 0, 0}, {3, 0, 0, 0}, {0, -1, 0, 0}, {0, 61, 0, 0}, {0, 0, -1, 0}, {0, 0, 61, 0},
            {0, 0, 0, -1}, {0, 0, 0, 51}, {LOW, 0, 0, 0}, {HIGH, 0, 0, 0}, {0, 0, 0, LOW}, {0, 0, 0, HIGH}};
        for (int[] w : wrong) {
            due("church wrong", x.church(w[0], w[1], w[2], w[3]), OUTSIDE);
        }
        due("many", x.many(1), 0);
        due("church", x.church(0, 0, 0, 0), 0);
        due("church", x.church(2, 60, 59, 50), 1);
        due("kind", x.ofChurch(1, 0), 2);
        due("x", x.ofChurch(1, 1), 60);
        due("y", x.ofChurch(1, 2), 59);
        due("seats", x.ofChurch(1, 3), 50);
        for (int c = 2; c < 5; c++) {
            due("church", x.church(1, c, c, c), c);
        }
        due("sixth", x.church(1, 1, 1, 1), FULL);
        due("outside before full", x.church(3, 1, 1, 1), OUTSIDE);
        due("many", x.many(1), 5);
    }

    private static void p4() {
        NearSeats x = begin(4);
        x.home(1, 1, 1);
        x.home(2, 2, 1);
        x.church(0, 1, 1, 1);
        x.bar(0, 0, true);
        x.place(4, 4);
        x.toll(7);
        x.tell(0);
        due("taken", landBy(x, "h1,2*3;q60,0=50;s07,08=00;f59,60=9;h00,9*05"), 5);
        int[][] homes = {{1, 2, 3}, {0, 9, 5}};
        int[][] churches = {{0, 60, 0, 50}, {1, 7, 8, 0}, {2, 59, 60, 9}};
        due("homes", x.many(0), 2);
        due("churches", x.many(1), 3);
        for (int h = 0; h < 2; h++) for (int w = 0; w < 3; w++) due("ofHome", x.ofHome(h, w), homes[h][w]);
        for (int c = 0; c < 3; c++) for (int w = 0; w < 4; w++) due("ofChurch", x.ofChurch(c, w), churches[c][w]);
        due("nobody barred", x.bar(0, 0, false), 0);
        due("places stay", x.many(2), 1);
        due("trace stays", x.trace(), 1);
        due("toll stays", x.toll(8), 7);
        x.bar(0, 1, true);
        due("a fault changes nothing", landBy(x, "h1,2*3;q"), -108);
        due("homes", x.many(0), 2);
        due("still barred", x.bar(0, 1, true), 0);
        due("one church", landBy(x, "f0,0=0"), 1);
        due("no homes", x.many(0), 0);
        due("miles", x.miles(), 0);
    }

    private static void p4FirstFaults() {
        NearSeats x = begin(4);
        String[] texts = {"", "h", "q", "h1", "h1,", "h1,2", "h1,2*", "q1,2=", "h1,2*3;", "h1,2*3;s", "x", "1", ";", ",",
            "h,", "h1;", "h12", "h123", "h1,2=", "q1,2*", "h1,2*3,", "h1,2*33", "h1,2*0", "h1,2*6", "h1,2*00",
            "h61", "h61,0*1", "h6,61*1", "h99x", "h613", "q0,0=51", "q0,0=51;", "q0,0=500", "q0,0=050", "h1,2*3;;",
            "h1,2*3h", "h-1", "h1,2*3 ", "h1,,", "h1,2*051", "H1,2*3", "h1 ,2*3", "q60,60=50;h60,61*5",
            "s1,1=1;s1,1=1;s1,1=1;s1,1=1;s1,1=1;f1,1=1", "s1,1=1;s1,1=1;s1,1=1;s1,1=1;s1,1=1;h1,1=1",
            "h1,1*1;h1,1*1;h1,1*1;h1,1*1;h1,1*1;h1,1*1;h1,1*1;h1,1*1;h1,1*1;h1,1*1;h"};
        int[] faults = {0, 1, 1, 2, 3, 4, 5, 5, 7, 8, 0, 0, 0, 0,
            1, 2, 3, 3, 4, 4, 6, 5, 5, 5, 5,
            1, 1, 3, 1, 1, 5, 5, 7, 7, 7,
            6, 1, 6, 3, 7, 0, 2, 14,
            35, 39,
            70};
        due("told", texts.length, faults.length);
        for (int k = 0; k < texts.length; k++) {
            due("land " + texts[k], landBy(x, texts[k]), -100 - faults[k]);
        }
        due("nothing made", x.many(0) + x.many(1), 0);
        due("ten homes, a church", landBy(x, "h1,1*1;h1,1*1;h1,1*1;h1,1*1;h1,1*1;h1,1*1;h1,1*1;h1,1*1;h1,1*1;h1,1*1;q1,1=1"), 11);
        due("homes", x.many(0), 10);
        x.sheet(0, 2, 6);
        String text = "h1,2*3";
        for (int k = 0; k < 6; k++) {
            row(x, 0, 2, 'h', '1', ',', '2', '*', '3');
            x.put(0, k, text.charAt(k) + 256);
            due("a code of more than a byte", x.land(0, 2, 0, 6), -100 - k);
            x.put(0, k, -1);
            due("a code below 0", x.land(0, 2, 0, 6), k == 5 ? -105 : -100 - k);
        }
    }

    private static void p4Refusals() {
        NearSeats x = begin(4);
        write(x, 0, 0, "..h1,2*3..");
        due("from i on", x.land(0, 0, 2, 6), 1);
        due("too few", x.land(0, 0, 2, 5), -105);
        due("too many", x.land(0, 0, 2, 7), -106);
        for (int k : new int[] {-1, 4, LOW, HIGH}) due("unknown", x.land(k, 9, -1, -1), UNKNOWN);
        for (int lane : new int[] {-1, 3, LOW, HIGH}) due("lane", x.land(1, lane, -1, -1), OUTSIDE);
        due("fault of a refused call", x.fault(), 0);
        due("nothing is no cast", x.land(1, 0, -1, -1), NULL);
        due("fault", x.fault(), 1);
        due("cast before size", x.land(0, 1, -1, -1), CAST);
        due("fault", x.fault(), 2);
        due("size before index", x.land(0, 0, -1, -1), SIZE);
        due("fault", x.fault(), 4);
        int[][] beyond = {{-1, 0}, {11, 0}, {10, 1}, {0, 11}, {HIGH, 1}, {1, HIGH}, {LOW, 0}, {HIGH, HIGH}, {5, 6}};
        for (int[] b : beyond) due("index", x.land(0, 0, b[0], b[1]), INDEX);
        due("fault", x.fault(), 3);
        due("at the end", x.land(0, 0, 10, 0), -100);
        due("fault", x.fault(), 0);
        due("the home is still there", x.many(0), 1);
    }

    private static void p5and6() {
        NearSeats x = begin(5);
        x.home(3, 4, 5);
        for (int what : new int[] {-1, 3, LOW, HIGH}) due("what", x.ofHome(0, what), OUTSIDE);
        for (int h : new int[] {-1, 1, LOW, HIGH}) due("unknown first", x.ofHome(h, 9), UNKNOWN);
        due("x", x.ofHome(0, 0), 3);
        due("y", x.ofHome(0, 1), 4);
        due("heads", x.ofHome(0, 2), 5);
        promise = 6;
        x.church(1, 7, 8, 9);
        for (int what : new int[] {-1, 4, LOW, HIGH}) due("what", x.ofChurch(0, what), OUTSIDE);
        for (int c : new int[] {-1, 1, LOW, HIGH}) due("unknown first", x.ofChurch(c, 9), UNKNOWN);
        due("kind", x.ofChurch(0, 0), 1);
        due("x", x.ofChurch(0, 1), 7);
        due("y", x.ofChurch(0, 2), 8);
        due("seats", x.ofChurch(0, 3), 9);
    }

    private static void p7() {
        NearSeats x = tight(7);
        due("not barred", x.bar(1, 1, false), 0);
        due("barred", x.bar(1, 1, true), 1);
        due("it was so", x.bar(1, 1, true), 0);
        due("miles", x.miles(), 300);
        due("others are not", x.bar(0, 1, false) + x.bar(1, 0, false), 0);
        due("no longer", x.bar(1, 1, false), 1);
        due("miles", x.miles(), 100);
        for (int k : new int[] {-1, 2, LOW, HIGH, 32}) {
            due("unknown home", x.bar(k, 0, true), UNKNOWN);
            due("unknown church", x.bar(0, k, true), UNKNOWN);
        }
        due("miles", x.miles(), 100);
        due("a new church", x.church(1, 5, 5, 5), 2);
        due("not barred from it", x.bar(0, 2, false), 0);
    }

    private static void p8() {
        NearSeats x = tight(8);
        due("seats", x.seats(0, 50), 1);
        due("seats", x.seats(0, 0), 50);
        due("many", x.many(4), 2);
        due("no room", x.miles(), NONE);
        due("seats", x.seats(0, 2), 0);
        due("miles", x.miles(), 0);
        for (int n : new int[] {-1, 51, LOW, HIGH}) due("outside", x.seats(0, n), OUTSIDE);
        for (int c : new int[] {-1, 2, LOW, HIGH}) due("unknown first", x.seats(c, -1), UNKNOWN);
        due("as it was", x.ofChurch(0, 3), 2);
    }

    private static void p9and10() {
        NearSeats x = begin(9);
        x.church(2, 30, 0, 1);
        x.home(29, 0, 1);
        due("miles", x.miles(), 210);
        due("toll", x.toll(999), 200);
        due("miles", x.miles(), 1009);
        for (int v : new int[] {-1, 1000, LOW, HIGH}) due("outside", x.toll(v), OUTSIDE);
        due("toll", x.toll(0), 999);
        due("toll", x.toll(5), 0);
        promise = 10;
        x.church(0, 10, 20, 1);
        x.church(1, 10, 20, 1);
        due("ferry over", x.far(29, 3, 0), 45);
        due("ferry, not over", x.far(30, 3, 0), 30);
        due("ferry, far side", x.far(60, 60, 0), 900);
        due("square", x.far(13, 16, 1), 25);
        due("square", x.far(60, 60, 1), 4100);
        due("steps", x.far(13, 16, 2), 70);
        due("steps do not pay", x.far(40, 20, 2), 300);
        int[][] wrong = {{-1, 0}, {0, -1}, {61, 0}, {0, 61}, {LOW, LOW}, {HIGH, HIGH}};
        for (int[] w : wrong) {
            due("outside", x.far(w[0], w[1], 0), OUTSIDE);
            due("unknown first", x.far(w[0], w[1], 3), UNKNOWN);
        }
        due("unknown", x.far(0, 0, -1), UNKNOWN);
        due("unknown", x.far(0, 0, HIGH), UNKNOWN);
        x.church(2, 29, 0, 1);
        due("ferry over the other way", x.far(30, 0, 3), 15);
    }

    private static void p11() {
        NearSeats x = tight(11);
        due("miles", x.miles(), 100);
        x = uneven(11);
        due("miles", x.miles(), 154);
        x = begin(11);
        for (int h = 0; h < 10; h++) x.home(0, 0, 5);
        for (int c = 0; c < 5; c++) x.church(0, 60, 60, 10);
        due("the most", x.miles(), 360000);
        x.seats(4, 9);
        due("one head too many", x.miles(), NONE);
        // a chain: each moves one church on, so that the last seat is reached
        x = begin(11);
        x.home(0, 0, 1);
        x.home(10, 0, 1);
        x.home(20, 0, 1);
        x.home(0, 0, 1);
        for (int c = 0; c < 4; c++) x.church(0, 10 * c, 0, 1);
        due("a chain", x.miles(), 300);
    }

    private static void p12() {
        NearSeats x = begin(12);
        x.home(0, 0, 2);
        x.home(0, 0, 3);
        x.home(0, 0, 1);
        due("no church", x.few(), 1);
        x.church(0, 0, 0, 2);
        due("homes 1 alone", x.few(), 2);
        x.church(0, 0, 0, 3);
        due("all together", x.few(), 7);
        x.bar(0, 1, true);
        x.bar(2, 1, true);
        due("0 and 2", x.few(), 5);
        x.seats(0, 3);
        due("there is none", x.few(), 0);
        x.bar(2, 0, true);
        due("2 from all", x.few(), 4);
    }

    private static void p13and14() {
        NearSeats x = tight(13);
        due("weight", x.weight(0), 100);
        due("weight", x.weight(1), 0);
        x = uneven(13);
        due("weight", x.weight(0), 6);
        due("weight", x.weight(1), 0);
        due("line", x.line(0), 3);
        due("line", x.line(1), 1);
        for (int k : new int[] {-1, 2, LOW, HIGH}) {
            due("unknown church", x.weight(k), UNKNOWN);
            due("unknown home", x.line(k), UNKNOWN);
        }
        x.bar(0, 0, true);
        due("barred", x.line(0), 2);
        due("weight", x.weight(0), 0);
        x.seats(1, 0);
        due("none", x.weight(0), NONE);
        due("none", x.line(0), NONE);
        due("unknown first", x.weight(2), UNKNOWN);
        due("unknown first", x.line(2), UNKNOWN);
        x = begin(13);
        x.church(0, 0, 0, 0);
        due("no homes", x.weight(0), 0);
        x = begin(13);
        x.home(0, 0, 1);
        x.church(0, 0, 0, 0);
        x.church(0, 3, 4, 50);
        due("a church without seats", x.weight(0), 25);
        promise = 14;
        due("both alike", x.line(0), 3);
        x.church(0, 0, 0, 0);
        due("all three", x.line(0), 7);
    }

    private static void p15() {
        NearSeats x = tight(15);
        due("holds", checked(x, 1, 1, 0, 1, 100, 0), 1);
        due("number too small", checked(x, 1, 1, 0, 1, 99, 0), 0);
        due("number too large", checked(x, 1, 1, 0, 1, 101, 0), 0);
        due("both seats are taken", checked(x, 1, 1, 0, 1, 1000000000, 999999900), 1);
        due("above the most", checked(x, 1, 1, 0, 1, 1000000001, 999999901), 0);
        due("a number below 0", checked(x, 1, 1, 0, 1, 0, -100), 0);
        due("not the least", checked(x, 0, 2, 1, 0, 100, 0), 0);
        due("a head too few", checked(x, 1, 0, 0, 1, 100, 0), 0);
        due("a head too many", checked(x, 1, 2, 0, 1, 100, 0), 0);
        due("below 0", checked(x, 3, -1, -2, 3, 100, 0), 0);
        due("sums that wrap", checked(x, HIGH, HIGH, 0, 1, 100, 0), 0);
        due("seats are fewer", checked(x, 2, 0, 0, 1, 0, 0), 0);
        for (int n : new int[] {0, 5}) due("n", x.check(0, 2, 0, n), OUTSIDE);
        x.sheet(0, 2, 80);
        due("n", x.check(0, 2, 0, 7), OUTSIDE);
        due("fault", x.fault(), 0);
        x.seats(1, 3);
        due("0 where seats are left", checked(x, 1, 1, 0, 1, 101, 1), 0);
        due("holds", checked(x, 1, 1, 0, 1, 100, 0), 1);
        x.bar(0, 0, true);
        due("barred", checked(x, 1, 1, 0, 1, 100, 0), 0);
        due("holds without it", checked(x, 0, 2, 0, 1, 0, 0), 1);
        row(x, 1, 0, 9, 0, 2, 0, 1, 0, 0, 9);
        due("bytes from i on", x.check(1, 0, 1, 6), 1);
        p15Refusals(x);
        x = begin(15);
        x.sheet(0, 1, 0);
        due("nothing to prove", x.check(0, 1, 0, 0), 1);
        x.home(0, 0, 1);
        due("nowhere to go", x.check(0, 1, 0, 0), 0);
        due("no such cells", x.check(0, 1, 1, 0), INDEX);
    }

    private static void p15Refusals(NearSeats x) {
        for (int k : new int[] {-1, 4, LOW, HIGH}) due("unknown", x.check(k, 9, -1, -1), UNKNOWN);
        for (int lane : new int[] {-1, 3, LOW, HIGH}) due("lane", x.check(2, lane, -1, -1), OUTSIDE);
        due("null", x.check(2, 0, -1, -1), NULL);
        due("cast", x.check(1, 2, -1, -1), CAST);
        due("size", x.check(1, 0, -1, -1), SIZE);
        int[][] beyond = {{-1, 6}, {9, 0}, {3, 6}, {0, 9}, {HIGH, 6}, {LOW, 6}, {0, HIGH}};
        for (int[] b : beyond) due("index", x.check(1, 0, b[0], b[1]), INDEX);
        due("fault", x.fault(), 3);
    }

    private static void p16() {
        NearSeats x = tight(16);
        due("miles", x.family(-1), 300);
        due("church", x.family(0), 1);
        due("church", x.family(1), 0);
        for (int h : new int[] {-2, 2, LOW, HIGH}) due("unknown", x.family(h), UNKNOWN);
        x.bar(1, 0, true);
        due("none", x.family(-1), NONE);
        due("none", x.family(0), NONE);
        due("unknown first", x.family(2), UNKNOWN);
        due("but there is a sending", x.miles(), 100);
        x = begin(16);
        for (int h = 0; h < 7; h++) x.home(0, 0, 1);
        for (int c = 0; c < 3; c++) x.church(0, 3, 4, 3);
        due("seven homes", x.family(-1), 175);
        int[] first = {0, 0, 0, 1, 1, 1, 2};
        for (int h = 0; h < 7; h++) due("the first row", x.family(h), first[h]);
        x.home(0, 0, 1);
        due("eight homes", x.family(-1), STATE);
        due("eight homes", x.family(7), STATE);
        due("unknown before state", x.family(8), UNKNOWN);
        x = begin(16);
        x.home(0, 0, 1);
        x.church(0, 1, 1, 1);
        x.church(0, 0, 1, 1);
        due("less by one", x.family(-1), 1);
        due("less by one", x.family(0), 1);
        x = begin(16);
        due("no homes", x.family(-1), 0);
        x.home(0, 0, 1);
        due("no churches", x.family(-1), NONE);
    }

    private static void p17() {
        NearSeats x = uneven(17);
        due("longest", x.even(0), 144);
        due("miles then", x.even(1), 194);
        for (int what : new int[] {-1, 2, LOW, HIGH}) due("outside", x.even(what), OUTSIDE);
        x.seats(0, 2);
        due("longest", x.even(0), 144);
        due("miles then", x.even(1), 148);
        x.bar(0, 0, true);
        due("longest", x.even(0), 150);
        due("miles then", x.even(1), 154);
        x.bar(0, 1, true);
        due("none", x.even(0), NONE);
        due("none", x.even(1), NONE);
        due("outside first", x.even(2), OUTSIDE);
        x = begin(17);
        x.home(0, 0, 5);
        x.church(0, 60, 60, 5);
        due("longest", x.even(0), 7200);
        due("miles then", x.even(1), 36000);
    }

    private static void borderIs(NearSeats x, int p, int q, int a, int b, int c) {
        due("a", x.border(p, q, 0), a);
        due("b", x.border(p, q, 1), b);
        due("c", x.border(p, q, 2), c);
    }

    private static void p18() {
        NearSeats x = begin(18);
        x.church(0, 0, 0, 1);
        x.church(0, 10, 0, 5);
        x.church(0, 0, 4, 0);
        x.church(0, 1, 0, 0);
        borderIs(x, 0, 1, 1, 0, 5);
        borderIs(x, 1, 0, 1, 0, 5);
        borderIs(x, 0, 2, 0, 1, 2);
        borderIs(x, 2, 0, 0, 1, 2);
        borderIs(x, 0, 3, 2, 0, 1);
        borderIs(x, 1, 2, 5, -2, 21);
        x.home(0, 0, 2);
        x.bar(0, 2, true);
        x.bar(0, 3, true);
        due("weight", x.weight(0), 100);
        borderIs(x, 0, 1, 1, 0, 0);
        borderIs(x, 3, 0, 2, 0, -99);
        borderIs(x, 2, 0, 0, 2, -21);
        x.church(1, 30, 30, 3);
        for (int k : new int[] {-1, 5, LOW, HIGH}) {
            due("unknown", x.border(k, 0, 0), LOST);
            due("unknown", x.border(0, k, 0), LOST);
        }
        for (int which : new int[] {-1, 3, LOW, HIGH}) due("which", x.border(0, 1, which), LOST);
        due("both are one", x.border(1, 1, 0), LOST);
        due("steps", x.border(0, 4, 0), LOST);
        due("steps", x.border(4, 0, 0), LOST);
        x.put(0, 0, 0);
        due("lost is no fault", x.border(0, 0, 0), LOST);
        due("fault", x.fault(), 1);
        x.bar(0, 0, true);
        x.bar(0, 1, true);
        x.bar(0, 4, true);
        due("no sending", x.border(0, 1, 0), LOST);
        x = begin(18);
        x.church(0, 5, 5, 1);
        x.church(0, 5, 5, 1);
        x.church(2, 6, 6, 1);
        due("one spot", x.border(0, 1, 0), LOST);
        due("ferry", x.border(0, 2, 0), LOST);
    }

    private static void p19() {
        NearSeats x = begin(19);
        due("no churches", x.who(0, 0), NONE);
        x.church(0, 0, 0, 1);
        x.church(0, 10, 0, 5);
        due("the least number", x.who(5, 0), 0);
        due("nearer", x.who(6, 0), 1);
        x.home(0, 0, 2);
        due("by weight", x.who(0, 0), 0);
        due("by weight", x.who(1, 0), 1);
        x.bar(0, 1, true);
        int[][] wrong = {{-1, 0}, {0, -1}, {61, 0}, {0, 61}, {LOW, 0}, {0, HIGH}};
        for (int[] w : wrong) due("outside first", x.who(w[0], w[1]), OUTSIDE);
        due("no sending", x.who(0, 0), STATE);
        x.seats(0, 2);
        due("who is not barred by others' bars", x.who(9, 0), 1);
        due("corner", x.who(60, 60), 1);
        x = begin(19);
        x.home(0, 0, 1);
        due("state before none", x.who(0, 0), STATE);
    }

    private static void p20and21() {
        NearSeats x = begin(20);
        int[][] wrong = {{-1, 0}, {0, -1}, {61, 0}, {0, 61}, {LOW, 0}, {0, HIGH}};
        x.home(0, 0, 1);
        x.church(0, 10, 0, 1);
        promise = 21;
        due("no places", x.move(0), NONE);
        promise = 20;
        int[][] spots = {{60, 60}, {0, 5}, {5, 0}, {4, 3}, {10, 0}, {0, 6}, {0, 7}, {0, 60}};
        for (int p = 0; p < 8; p++) {
            for (int[] w : wrong) due("outside", x.place(w[0], w[1]), OUTSIDE);
            due("place", x.place(spots[p][0], spots[p][1]), p);
            due("many", x.many(2), p + 1);
        }
        due("full", x.place(1, 1), FULL);
        due("outside before full", x.place(61, 1), OUTSIDE);
        promise = 21;
        for (int c : new int[] {-1, 1, LOW, HIGH}) due("unknown", x.move(c), UNKNOWN);
        due("the first of several", x.move(0), 1);
        due("x", x.ofChurch(0, 1), 0);
        due("y", x.ofChurch(0, 2), 5);
        due("miles", x.miles(), 25);
        due("none is better", x.move(0), NONE);
        due("as it was", x.ofChurch(0, 2), 5);
        due("kind and seats stay", x.ofChurch(0, 0) + x.ofChurch(0, 3), 1);
        x.bar(0, 0, true);
        due("no sending", x.move(0), NONE);
        x = begin(21);
        x.home(20, 0, 2);
        x.church(2, 40, 0, 1);
        x.church(1, 50, 0, 5);
        x.place(30, 0);
        x.place(29, 0);
        x.place(0, 0);
        due("the toll counts", x.move(0), 1);
        due("the other church too", x.move(1), 1);
        due("miles", x.miles(), 180);
    }

    private static void p22and23() {
        NearSeats x = tight(22);
        x.church(0, 3, 0, 3);
        x.seats(0, 2);
        int[] open = {NONE, NONE, NONE, 0, 67, 49, 18, 0};
        for (int set = 0; set < 8; set++) due("open " + set, x.open(set), open[set]);
        for (int set : new int[] {-1, 8, LOW, HIGH, 1 << 30}) due("outside", x.open(set), OUTSIDE);
        due("seats stay", x.many(4), 7);
        promise = 23;
        due("best 0", x.best(0), NONE);
        due("best 1", x.best(1), 4);
        due("best 2", x.best(2), 3);
        due("best 3", x.best(3), 7);
        for (int k : new int[] {-1, 4, LOW, HIGH}) due("outside", x.best(k), OUTSIDE);
        x = begin(23);
        for (int c = 0; c < 5; c++) x.church(1, 7, 7, 9);
        due("no homes", x.best(2), 3);
        due("no homes", x.best(0), 0);
        x.home(7, 7, 5);
        x.seats(0, 4);
        due("the least number", x.best(1), 2);
        due("all", x.best(5), 31);
        promise = 22;
        due("no such seats", x.open(1), NONE);
        due("just enough", x.open(3), 0);
    }

    private static void p24to26() {
        NearSeats x = begin(24);
        for (int k : new int[] {-1, 4, LOW, HIGH}) due("unknown", x.sheet(k, 9, -1), UNKNOWN);
        for (int lane : new int[] {-1, 3, LOW, HIGH}) due("lane before size", x.sheet(0, lane, -1), OUTSIDE);
        for (int n : new int[] {81, HIGH}) due("too long", x.sheet(0, 0, n), OUTSIDE);
        for (int n : new int[] {-1, LOW}) due("size", x.sheet(0, 0, n), SIZE);
        due("fault", x.fault(), 4);
        due("it has nothing", x.lose(0), 0);
        due("sheet", x.sheet(0, 2, 80), 1);
        due("fault", x.fault(), 0);
        for (int i = 0; i < 80; i++) x.put(0, i, 9);
        due("refused", x.sheet(0, 0, -1), SIZE);
        due("as it was", x.cell(0, 79, 2), 9);
        due("shorter", x.sheet(0, 1, 3), 1);
        due("anew", x.cell(0, 0, 1), 0);
        due("beyond", x.cell(0, 3, 1), LOST);
        due("longer", x.sheet(0, 2, 80), 1);
        for (int i = 0; i < 80; i++) due("anew", x.cell(0, i, 2), 0);
        due("of no cells", x.sheet(3, 0, 0), 1);
        promise = 25;
        due("it had a row", x.lose(3), 1);
        due("it had nothing", x.lose(3), 0);
        for (int k : new int[] {-1, 4, LOW, HIGH}) due("unknown", x.lose(k), UNKNOWN);
        due("others keep theirs", x.lose(0), 1);
        promise = 26;
        for (int k : new int[] {-1, 4, LOW, HIGH}) due("unknown", x.put(k, -1, 0), UNKNOWN);
        due("null before index", x.put(0, -1, 0), NULL);
        x.sheet(0, 0, 2);
        x.sheet(1, 1, 2);
        x.sheet(2, 2, 2);
        for (int i : new int[] {-1, 2, LOW, HIGH}) due("index", x.put(0, i, 0), INDEX);
        int[] given = {127, 128, 255, 256, 300, -129, 32768, 70001, HIGH, LOW};
        for (int v : given) {
            for (int k = 0; k < 3; k++) due("put", x.put(k, 1, v), 1);
            due("bytes", x.cell(0, 1, 0), (byte) v);
            due("shorts", x.cell(1, 1, 1), (short) v);
            due("ints", x.cell(2, 1, 2), v);
            due("the other cell", x.cell(2, 0, 2), 0);
        }
    }

    private static void cellIs(NearSeats x, int k, int i, int lane, int fault) {
        due("cell", x.cell(k, i, lane), LOST);
        due("fault", x.fault(), fault);
    }

    private static void p27() {
        NearSeats x = begin(27);
        row(x, 0, 1, 5, 6, 7);
        due("cell", x.cell(0, 2, 1), 7);
        cellIs(x, 0, 9, 0, 2);
        cellIs(x, 0, -1, 1, 3);
        cellIs(x, 0, 3, 1, 3);
        cellIs(x, 0, HIGH, 1, 3);
        cellIs(x, 0, LOW, 1, 3);
        cellIs(x, 1, -1, 0, 1);
        cellIs(x, -1, 0, 0, 0);
        cellIs(x, 1, -1, 0, 1);
        cellIs(x, 4, 0, 0, 0);
        cellIs(x, 1, -1, 0, 1);
        cellIs(x, 0, 0, 3, 0);
        cellIs(x, 1, -1, 0, 1);
        cellIs(x, 1, 0, -1, 0);
        due("cell", x.cell(0, 0, 1), 5);
        due("fault", x.fault(), 0);
    }

    private static void rowIs(NearSeats x, int k, int lane, int... cells) {
        for (int i = 0; i < cells.length; i++) due("cell", x.cell(k, i, lane), cells[i]);
    }

    private static void p28() {
        NearSeats x = begin(28);
        row(x, 0, 0, 1, 2, 3, 4, 5);
        row(x, 1, 0, 6, 7, 8);
        row(x, 2, 1, 6, 7, 8);
        due("forward", x.copy(0, 0, 0, 1, 4), 4);
        rowIs(x, 0, 0, 1, 1, 2, 3, 4);
        due("back", x.copy(0, 2, 0, 0, 3), 3);
        rowIs(x, 0, 0, 2, 3, 4, 3, 4);
        due("to another", x.copy(1, 1, 0, 3, 2), 2);
        rowIs(x, 0, 0, 2, 3, 4, 7, 8);
        rowIs(x, 1, 0, 6, 7, 8);
        due("none at the ends", x.copy(1, 3, 0, 5, 0), 0);
        due("fault", x.fault(), 0);
        for (int k : new int[] {-1, 4, LOW, HIGH}) {
            due("unknown", x.copy(k, -1, 3, -1, -1), UNKNOWN);
            due("unknown", x.copy(3, -1, k, -1, -1), UNKNOWN);
        }
        due("fault", x.fault(), 0);
        due("null", x.copy(3, -1, 0, -1, -1), NULL);
        due("null", x.copy(0, -1, 3, -1, -1), NULL);
        due("cast", x.copy(0, -1, 2, -1, -1), CAST);
        int[][] beyond = {{-1, 0, 0}, {0, -1, 0}, {0, 0, -1}, {6, 0, 0}, {0, 4, 0}, {5, 0, 1}, {0, 3, 1}, {0, 0, 4},
            {HIGH, 0, 1}, {0, HIGH, 1}, {1, 1, HIGH}, {HIGH, HIGH, HIGH}, {LOW, 0, 0}, {0, 0, LOW}};
        for (int[] b : beyond) due("index", x.copy(0, b[0], 1, b[1], b[2]), INDEX);
        due("fault", x.fault(), 3);
        rowIs(x, 1, 0, 6, 7, 8);
    }

    private static void p29to32() {
        NearSeats x = begin(29);
        x.church(2, 0, 0, 7);
        x.church(1, 0, 0, 8);
        x.church(0, 0, 0, 9);
        int trace = 0;
        due("ferry", x.tell(0), 114);
        for (int body : new int[] {3, 2, 1, 1}) trace = 31 * trace + body;
        due("trace", x.trace(), trace);
        due("steps", x.tell(1), 108);
        for (int body : new int[] {2, 1}) trace = 31 * trace + body;
        due("trace", x.trace(), trace);
        due("square", x.tell(2), 9);
        trace = 31 * trace + 1;
        due("trace", x.trace(), trace);
        for (int c : new int[] {-1, 3, LOW, HIGH}) due("unknown", x.tell(c), UNKNOWN);
        due("trace stays", x.trace(), trace);
        promise = 30;
        due("ferry", x.ring(0), 44);
        due("steps", x.ring(1), 1);
        due("square", x.ring(2), 2);
        for (int body : new int[] {5, 4, 4}) trace = 31 * trace + body;
        due("trace", x.trace(), trace);
        for (int c : new int[] {-1, 3, LOW, HIGH}) due("unknown", x.ring(c), UNKNOWN);
        promise = 32;
        due("trace stays", x.trace(), trace);
        for (int k = 0; k < 20; k++) {
            x.tell(2);
            trace = 31 * trace + 1;
        }
        due("trace wraps", x.trace(), trace);
        promise = 31;
        for (int kind = 0; kind < 3; kind++) {
            due("ferry as", x.as(0, kind), 1);
            due("steps as", x.as(1, kind), kind < 2 ? 1 : CAST);
            due("square as", x.as(2, kind), kind < 1 ? 1 : CAST);
            due("fault", x.fault(), kind < 1 ? 0 : 2);
        }
        for (int kind : new int[] {-1, 3, LOW, HIGH}) due("outside", x.as(2, kind), OUTSIDE);
        for (int c : new int[] {-1, 3, LOW, HIGH}) due("unknown first", x.as(c, 9), UNKNOWN);
        due("trace stays", x.trace(), trace);
    }

    /** Leaves a fault, so that the next call can be seen to end it or not. */
    private static void leaveFault(NearSeats x) {
        x.put(3, 0, 0);
        due("a fault is left", x.fault(), 1);
    }

    private static void p33() {
        NearSeats x = begin(33);
        due("ahead of any", x.fault(), 0);
        x.home(0, 0, 1);
        x.church(0, 0, 0, 1);
        leaveFault(x);
        x.home(0, 0, 1); x.church(0, 0, 0, 1); x.ofHome(0, 9); x.ofChurch(0, 9); x.bar(0, 0, false);
        x.seats(0, 99); x.toll(-1); x.far(0, 0, 0); x.miles(); x.few(); x.weight(0); x.line(0);
        x.family(-1); x.even(0); x.border(0, 1, 0); x.who(0, 0); x.place(0, 0); x.move(0); x.open(0); x.best(0);
        x.lose(0); x.lose(9); x.tell(0); x.ring(0); x.trace(); x.fault(); x.many(9);
        due("calls that name none", x.fault(), 1);
        for (int call = 0; call < 14; call++) {
            leaveFault(x);
            switch (call) {
                case 0: x.land(9, 0, 0, 0); break;
                case 1: x.land(0, 9, 0, 0); break;
                case 2: x.check(9, 0, 0, 0); break;
                case 3: x.check(0, 9, 0, 0); break;
                case 4: x.sheet(9, 0, 0); break;
                case 5: x.sheet(0, 0, 81); break;
                case 6: x.put(9, 0, 0); break;
                case 7: x.cell(9, 0, 0); break;
                case 8: x.cell(0, 0, 9); break;
                case 9: x.copy(0, 0, 9, 0, 0); break;
                case 10: x.as(9, 0); break;
                case 11: x.as(0, 9); break;
                case 12: x.sheet(0, 0, 8); break;
                default: x.as(0, 0); break;
            }
            due("refused or none, call " + call, x.fault(), 0);
        }
        for (int call = 0; call < 6; call++) {
            leaveFault(x);
            switch (call) {
                case 0: x.land(0, 0, 0, 3); break;
                case 1: x.check(0, 0, 0, 3); break;
                case 2: x.check(0, 0, 0, 6); break;
                case 3: x.put(0, 0, 0); break;
                case 4: x.cell(0, 0, 0); break;
                default: x.copy(0, 0, 0, 0, 0); break;
            }
            due("came to none, call " + call, x.fault(), 0);
        }
    }

    private static void p34() {
        NearSeats x = tight(34);
        x.place(0, 0);
        int[] many = {2, 2, 1, 3, 3};
        for (int what = 0; what < 5; what++) due("many", x.many(what), many[what]);
        for (int what : new int[] {-1, 5, LOW, HIGH}) due("outside", x.many(what), OUTSIDE);
    }

    public static void main(String[] args) {
        p1(); p2(); p3(); p4(); p4FirstFaults(); p4Refusals(); p5and6(); p7(); p8(); p9and10();
        p11(); p12(); p13and14(); p15(); p16(); p17(); p18(); p19(); p20and21(); p22and23();
        p24to26(); p27(); p28(); p29to32(); p33(); p34();
        DUE.end();
    }
}
