/** Homes sent to the nearest churches that have room; ../shared/DOC.md tells every call. */
public final class NearSeats {
    public static final int UNKNOWN = -1, OUTSIDE = -2, STATE = -3, FULL = -4, NONE = -9;
    public static final long LOST = Long.MIN_VALUE;

    private static final int NULL = 1, CAST = 2, INDEX = 3, SIZE = 4;
    private static final int SQUARE = 0, STEPS = 1, FERRY = 2;
    private static final int LAST_SPOT = 60, SHORE = 30;
    private static final int MOST_HEADS = 5, MOST_SEATS = 50, MOST_TOLL = 999, FIRST_TOLL = 200;
    private static final int MOST_HOMES = 10, MOST_CHURCHES = 5, MOST_ITEMS = 15, MOST_PLACES = 8;
    private static final int MOST_SHEETS = 4, MOST_CELLS = 80, BYTES = 0, SHORTS = 1, INTS = 2;
    private static final int MOST_FAMILIES = 7;
    private static final int MOST_NUMBER = 1000000000;
    /** Above every sum of miles, and far enough below the int's end to be added to. */
    private static final int ENDLESS = 500000000;

    private final Land land = new Land();
    private final LandText text = new LandText();
    private final Sender now = new Sender();
    private final Sender trial = new Sender();
    private final Families families = new Families();
    private final Teller teller = new Teller();
    private final Sheet[] sheets = new Sheet[MOST_SHEETS];
    private final int[] placeX = new int[MOST_PLACES];
    private final int[] placeY = new int[MOST_PLACES];
    private int places;
    private int fault;
    /** For which state of the land an answer was found: it is not sought again until the land changes. */
    private int sentAt = -1, evenAt = -1, familiesAt = -1;
    private int nowMiles, evenLongest, evenMiles;

    public NearSeats() {
        for (int k = 0; k < MOST_SHEETS; k++) {
            sheets[k] = new Sheet();
        }
    }

    // ---- 1 the land

    public int home(int x, int y, int heads) {
        if (!isSpot(x, y) || !isWithin(heads, 1, MOST_HEADS)) {
            return OUTSIDE;
        }
        return land.homes >= MOST_HOMES ? FULL : land.addHome(x, y, heads);
    }

    public int church(int kind, int x, int y, int seats) {
        if (!isWithin(kind, SQUARE, FERRY) || !isSpot(x, y) || !isWithin(seats, 0, MOST_SEATS)) {
            return OUTSIDE;
        }
        return land.churches >= MOST_CHURCHES ? FULL : land.addChurch(kind, x, y, seats);
    }

    public int land(int sheet, int lane, int i, int n) {
        int refusal = refusalOfRow(sheet, lane, i, n);
        if (refusal != 0) {
            return refusal;
        }
        int items = text.readItems(sheets[sheet].cells, i, n);
        if (items < 0) {
            return -100 - text.firstFault;
        }
        text.layOut(land, items);
        return items;
    }

    public int ofHome(int h, int what) {
        if (!land.hasHome(h)) {
            return UNKNOWN;
        }
        switch (what) {
            case 0: return land.homeX[h];
            case 1: return land.homeY[h];
            case 2: return land.heads[h];
            default: return OUTSIDE;
        }
    }

    public int ofChurch(int c, int what) {
        if (!land.hasChurch(c)) {
            return UNKNOWN;
        }
        switch (what) {
            case 0: return land.kind[c];
            case 1: return land.churchX[c];
            case 2: return land.churchY[c];
            case 3: return land.seats[c];
            default: return OUTSIDE;
        }
    }

    public int bar(int h, int c, boolean is) {
        if (!land.hasHome(h) || !land.hasChurch(c)) {
            return UNKNOWN;
        }
        if (land.isBarred(h, c) == is) {
            return 0;
        }
        land.turnBar(h, c);
        return 1;
    }

    public int seats(int c, int n) {
        if (!land.hasChurch(c)) {
            return UNKNOWN;
        }
        return isWithin(n, 0, MOST_SEATS) ? land.changeSeats(c, n) : OUTSIDE;
    }

    public int toll(int v) {
        return isWithin(v, 0, MOST_TOLL) ? land.changeToll(v) : OUTSIDE;
    }

    public int far(int x, int y, int c) {
        if (!land.hasChurch(c)) {
            return UNKNOWN;
        }
        return isSpot(x, y) ? land.farTo(c, x, y) : OUTSIDE;
    }

    // ---- 2 sendings

    public int miles() {
        return leastMiles();
    }

    public int few() {
        for (int set = 1; set < 1 << land.homes; set++) {
            if (land.cannotSit(set)) {
                return set;
            }
        }
        return 0;
    }

    public int weight(int c) {
        if (!land.hasChurch(c)) {
            return UNKNOWN;
        }
        return leastMiles() == NONE ? NONE : now.weights[c];
    }

    public int line(int h) {
        if (!land.hasHome(h)) {
            return UNKNOWN;
        }
        return leastMiles() == NONE ? NONE : now.lineOf(h);
    }

    public int check(int sheet, int lane, int i, int n) {
        int refusal = refusalOfRow(sheet, lane, i, n);
        if (refusal != 0) {
            return refusal;
        }
        if (n != land.homes * land.churches + land.churches) {
            return OUTSIDE;
        }
        return land.proofHolds(sheets[sheet].cells, i) ? 1 : 0;
    }

    // ---- 3 families, even, borders

    public int family(int h) {
        if (h != -1 && !land.hasHome(h)) {
            return UNKNOWN;
        }
        if (land.homes > MOST_FAMILIES) {
            return STATE;
        }
        seekFamilies();
        if (families.least == ENDLESS) {
            return NONE;
        }
        return h == -1 ? families.least : families.chosen[h];
    }

    public int even(int what) {
        if (!isWithin(what, 0, 1)) {
            return OUTSIDE;
        }
        seekEven();
        return what == 0 ? evenLongest : evenMiles;
    }

    public long border(int p, int q, int which) {
        if (!land.hasChurch(p) || !land.hasChurch(q) || !isWithin(which, 0, 2) || p == q) {
            return LOST;
        }
        if (land.kind[p] != SQUARE || land.kind[q] != SQUARE || land.atOneSpot(p, q)) {
            return LOST;
        }
        return leastMiles() == NONE ? LOST : partOfBorder(p, q, which);
    }

    public int who(int x, int y) {
        if (!isSpot(x, y)) {
            return OUTSIDE;
        }
        if (leastMiles() == NONE) {
            return STATE;
        }
        return leastChurch(x, y);
    }

    // ---- 4 churches moved, shut

    public int place(int x, int y) {
        if (!isSpot(x, y)) {
            return OUTSIDE;
        }
        if (places >= MOST_PLACES) {
            return FULL;
        }
        placeX[places] = x;
        placeY[places] = y;
        return places++;
    }

    public int move(int c) {
        if (!land.hasChurch(c)) {
            return UNKNOWN;
        }
        int p = bestPlace(c);
        if (p < 0) {
            return NONE;
        }
        land.moveChurch(c, placeX[p], placeY[p]);
        return p;
    }

    public int open(int set) {
        return isWithin(set, 0, (1 << land.churches) - 1) ? milesOfSet(set) : OUTSIDE;
    }

    public int best(int k) {
        if (!isWithin(k, 0, land.churches)) {
            return OUTSIDE;
        }
        int bestSet = NONE;
        int least = ENDLESS;
        for (int set = 0; set < 1 << land.churches; set++) {
            if (Integer.bitCount(set) == k) {
                int sum = milesOfSet(set);
                if (sum != NONE && sum < least) {
                    least = sum;
                    bestSet = set;
                }
            }
        }
        return bestSet;
    }

    // ---- 5 sheets, parts

    public int sheet(int k, int lane, int n) {
        fault = 0;
        if (!isSheet(k)) {
            return UNKNOWN;
        }
        if (!isLane(lane) || n > MOST_CELLS) {
            return OUTSIDE;
        }
        if (n < 0) {
            return faulty(SIZE);
        }
        sheets[k].renew(lane, n);
        return 1;
    }

    public int lose(int k) {
        if (!isSheet(k)) {
            return UNKNOWN;
        }
        if (!sheets[k].hasRow) {
            return 0;
        }
        sheets[k].hasRow = false;
        return 1;
    }

    public int put(int k, int i, int v) {
        fault = 0;
        if (!isSheet(k)) {
            return UNKNOWN;
        }
        if (!sheets[k].hasRow) {
            return faulty(NULL);
        }
        if (!sheets[k].hasCell(i)) {
            return faulty(INDEX);
        }
        sheets[k].setCell(i, v);
        return 1;
    }

    public long cell(int k, int i, int lane) {
        fault = 0;
        if (!isSheet(k) || !isLane(lane)) {
            return LOST;
        }
        Sheet row = sheets[k];
        if (!row.hasRow) {
            fault = NULL;
        } else if (row.lane != lane) {
            fault = CAST;
        } else if (!row.hasCell(i)) {
            fault = INDEX;
        } else {
            return row.cells[i];
        }
        return LOST;
    }

    public int copy(int k, int i, int other, int j, int n) {
        fault = 0;
        if (!isSheet(k) || !isSheet(other)) {
            return UNKNOWN;
        }
        Sheet from = sheets[k];
        Sheet to = sheets[other];
        if (!from.hasRow || !to.hasRow) {
            return faulty(NULL);
        }
        if (from.lane != to.lane) {
            return faulty(CAST);
        }
        if (n < 0 || !from.hasCells(i, n) || !to.hasCells(j, n)) {
            return faulty(INDEX);
        }
        System.arraycopy(from.cells, i, to.cells, j, n);
        return n;
    }

    public int tell(int c) {
        return land.hasChurch(c) ? teller.tellOf(land.kind[c], land.seats[c]) : UNKNOWN;
    }

    public int ring(int c) {
        return land.hasChurch(c) ? teller.ringOf(land.kind[c], c) : UNKNOWN;
    }

    public int as(int c, int kind) {
        fault = 0;
        if (!land.hasChurch(c)) {
            return UNKNOWN;
        }
        if (!isWithin(kind, SQUARE, FERRY)) {
            return OUTSIDE;
        }
        // each kind is one of all kinds with a lower number
        return land.kind[c] < kind ? faulty(CAST) : 1;
    }

    public int trace() {
        return teller.left;
    }

    public int fault() {
        return fault;
    }

    public int many(int what) {
        switch (what) {
            case 0: return land.homes;
            case 1: return land.churches;
            case 2: return places;
            case 3: return sumOf(land.heads, land.homes);
            case 4: return sumOf(land.seats, land.churches);
            default: return OUTSIDE;
        }
    }

    // ---- what the calls share

    private static boolean isWithin(int v, int least, int most) {
        return v >= least && v <= most;
    }

    private static boolean isSpot(int x, int y) {
        return isWithin(x, 0, LAST_SPOT) && isWithin(y, 0, LAST_SPOT);
    }

    private static boolean isSheet(int k) {
        return isWithin(k, 0, MOST_SHEETS - 1);
    }

    private static boolean isLane(int lane) {
        return isWithin(lane, BYTES, INTS);
    }

    private static int sumOf(int[] row, int n) {
        int sum = 0;
        for (int i = 0; i < n && i < row.length; i++) {
            sum += row[i];
        }
        return sum;
    }

    private int faulty(int which) {
        fault = which;
        return -10 - which;
    }

    /** 0, if n cells of the sheet from i on can be taken as a row of the lane. */
    private int refusalOfRow(int k, int lane, int i, int n) {
        fault = 0;
        if (!isSheet(k)) {
            return UNKNOWN;
        }
        if (!isLane(lane)) {
            return OUTSIDE;
        }
        Sheet row = sheets[k];
        if (!row.hasRow) {
            return faulty(NULL);
        }
        if (row.lane != lane) {
            return faulty(CAST);
        }
        if (n < 0) {
            return faulty(SIZE);
        }
        return row.hasCells(i, n) ? 0 : faulty(INDEX);
    }

    private int leastMiles() {
        if (sentAt != land.changes) {
            now.load(land);
            nowMiles = now.send();
            if (nowMiles != NONE) {
                now.weigh();
            }
            sentAt = land.changes;
        }
        return nowMiles;
    }

    private void seekFamilies() {
        if (familiesAt != land.changes) {
            families.seek(land);
            familiesAt = land.changes;
        }
    }

    private void seekEven() {
        if (evenAt != land.changes) {
            evenMiles = leastMiles();
            evenLongest = evenMiles == NONE ? NONE : now.longest();
            shortenLongest();
            evenAt = land.changes;
        }
    }

    /**
     * The shortest longest way stays within low .. evenLongest. A sending found below a limit is also
     * the one of the least miles for its own longest way, so its miles are those that even asks for.
     */
    private void shortenLongest() {
        int low = 0;
        for (int round = 0; round < 16 && low < evenLongest; round++) {
            int middle = (low + evenLongest) / 2;
            trial.load(land);
            trial.forbidBeyond(middle);
            int sum = trial.send();
            if (sum == NONE) {
                low = middle + 1;
            } else {
                evenMiles = sum;
                evenLongest = trial.longest();
            }
        }
    }

    private int milesOfSet(int set) {
        trial.load(land);
        trial.shutAllBut(set);
        return trial.send();
    }

    /** -1: no place is better than where the church stands. */
    private int bestPlace(int c) {
        int found = -1;
        int least = leastMiles() == NONE ? ENDLESS : nowMiles;
        for (int p = 0; p < places; p++) {
            trial.load(land);
            trial.putChurch(land, c, placeX[p], placeY[p]);
            int sum = trial.send();
            if (sum != NONE && sum < least) {
                least = sum;
                found = p;
            }
        }
        return found;
    }

    private int leastChurch(int x, int y) {
        int found = NONE;
        int least = ENDLESS;
        for (int c = 0; c < land.churches; c++) {
            int together = land.farTo(c, x, y) + now.weights[c];
            if (together < least) {
                least = together;
                found = c;
            }
        }
        return found;
    }

    /** The squares of x and y are the same on both sides, so what is left is a straight line. */
    private long partOfBorder(int p, int q, int which) {
        int a = 2 * (land.churchX[q] - land.churchX[p]);
        int b = 2 * (land.churchY[q] - land.churchY[p]);
        int c = sideOfBorder(q) - sideOfBorder(p);
        int divisor = commonDivisor(commonDivisor(Math.abs(a), Math.abs(b)), Math.abs(c));
        if (divisor == 0) {
            return LOST;
        }
        int signed = a < 0 || a == 0 && b < 0 ? -divisor : divisor;
        return which == 0 ? a / signed : which == 1 ? b / signed : c / signed;
    }

    private int sideOfBorder(int c) {
        return land.churchX[c] * land.churchX[c] + land.churchY[c] * land.churchY[c] + now.weights[c];
    }

    private static int commonDivisor(int v, int w) {
        int large = v;
        int small = w;
        // the smaller halves at least every two rounds: 64 are enough for any two ints
        for (int round = 0; round < 64 && small != 0; round++) {
            int rest = large % small;
            large = small;
            small = rest;
        }
        return large;
    }

    /** The homes and churches; every change is counted, so that answers found before it are known as old. */
    private static final class Land {
        final int[] homeX = new int[MOST_HOMES];
        final int[] homeY = new int[MOST_HOMES];
        final int[] heads = new int[MOST_HOMES];
        /** Of each home the set of churches from which it is barred. */
        final int[] barred = new int[MOST_HOMES];
        final int[] kind = new int[MOST_CHURCHES];
        final int[] churchX = new int[MOST_CHURCHES];
        final int[] churchY = new int[MOST_CHURCHES];
        final int[] seats = new int[MOST_CHURCHES];
        int homes;
        int churches;
        int ferryToll = FIRST_TOLL;
        int changes;

        boolean hasHome(int h) {
            return h >= 0 && h < homes;
        }

        boolean hasChurch(int c) {
            return c >= 0 && c < churches;
        }

        void empty() {
            homes = 0;
            churches = 0;
            changes++;
        }

        int addHome(int x, int y, int number) {
            int h = homes;
            homeX[h] = x;
            homeY[h] = y;
            heads[h] = number;
            barred[h] = 0;
            homes++;
            changes++;
            return h;
        }

        int addChurch(int ofKind, int x, int y, int number) {
            int c = churches;
            kind[c] = ofKind;
            churchX[c] = x;
            churchY[c] = y;
            seats[c] = number;
            churches++;
            changes++;
            return c;
        }

        boolean isBarred(int h, int c) {
            return (barred[h] >> c & 1) == 1;
        }

        void turnBar(int h, int c) {
            barred[h] ^= 1 << c;
            changes++;
        }

        int changeSeats(int c, int n) {
            int old = seats[c];
            seats[c] = n;
            changes++;
            return old;
        }

        int changeToll(int v) {
            int old = ferryToll;
            ferryToll = v;
            changes++;
            return old;
        }

        void moveChurch(int c, int x, int y) {
            churchX[c] = x;
            churchY[c] = y;
            changes++;
        }

        boolean atOneSpot(int p, int q) {
            return churchX[p] == churchX[q] && churchY[p] == churchY[q];
        }

        int farTo(int c, int x, int y) {
            return farBetween(kind[c], x, y, churchX[c], churchY[c]);
        }

        int farBetween(int ofKind, int x, int y, int toX, int toY) {
            int dx = Math.abs(x - toX);
            int dy = Math.abs(y - toY);
            if (ofKind == SQUARE) {
                return dx * dx + dy * dy;
            }
            boolean over = ofKind == FERRY && (x < SHORE) != (toX < SHORE);
            return 10 * (dx + dy) + (over ? ferryToll : 0);
        }

        /** Whether a set of homes has more heads than all seats to which one of them may go. */
        boolean cannotSit(int set) {
            int left = 0;
            int shut = -1;
            for (int h = 0; h < homes; h++) {
                if ((set >> h & 1) == 1) {
                    left += heads[h];
                    shut &= barred[h];
                }
            }
            for (int c = 0; c < churches; c++) {
                if ((shut >> c & 1) == 0) {
                    left -= seats[c];
                }
            }
            return left > 0;
        }

        /** The cells from i on are as many as a proof has: the caller has looked. */
        boolean proofHolds(int[] cells, int i) {
            int numbers = i + homes * churches;
            for (int h = 0; h < homes; h++) {
                if (!allOfHomeGo(h, cells, i + h * churches)) {
                    return false;
                }
            }
            for (int c = 0; c < churches; c++) {
                if (!numberFits(c, cells, i, cells[numbers + c])) {
                    return false;
                }
            }
            for (int h = 0; h < homes; h++) {
                if (!goesToLeast(h, cells, i + h * churches, numbers)) {
                    return false;
                }
            }
            return true;
        }

        private boolean allOfHomeGo(int h, int[] cells, int row) {
            int left = heads[h];
            for (int c = 0; c < churches; c++) {
                int go = cells[row + c];
                // looked at one by one, so that no sum can wrap
                if (go < 0 || go > left || go > 0 && isBarred(h, c)) {
                    return false;
                }
                left -= go;
            }
            return left == 0;
        }

        private boolean numberFits(int c, int[] cells, int i, int number) {
            int left = seats[c];
            for (int h = 0; h < homes; h++) {
                left -= cells[i + h * churches + c];
            }
            if (left < 0 || number < 0 || number > MOST_NUMBER) {
                return false;
            }
            return left == 0 || number == 0;
        }

        private boolean goesToLeast(int h, int[] cells, int row, int numbers) {
            int least = MOST_NUMBER + ENDLESS;
            int longest = 0;
            for (int c = 0; c < churches; c++) {
                if (!isBarred(h, c)) {
                    int together = farTo(c, homeX[h], homeY[h]) + cells[numbers + c];
                    least = Math.min(least, together);
                    if (cells[row + c] > 0) {
                        longest = Math.max(longest, together);
                    }
                }
            }
            return longest <= least;
        }
    }

    /** Reads a text whole before the land is touched, since a text with a fault changes nothing. */
    private static final class LandText {
        private static final int HOME = -1, NO_KIND = -2;

        private final int[] kinds = new int[MOST_ITEMS];
        private final int[] xs = new int[MOST_ITEMS];
        private final int[] ys = new int[MOST_ITEMS];
        private final int[] numbers = new int[MOST_ITEMS];
        private final int[] codes = new int[MOST_CELLS];
        private int length;
        private int at;
        private int homes;
        private int churches;
        private boolean ok;
        int firstFault;

        /** How many items; -1: there is a first fault. The cells are there: the caller has looked. */
        int readItems(int[] cells, int i, int n) {
            begin(cells, i, n);
            for (int item = 0; item < MOST_ITEMS && ok; item++) {
                readItem(item);
                if (ok && at == length) {
                    return item + 1;
                }
                // behind the last item that there can be no text goes on
                if (ok && item == MOST_ITEMS - 1) {
                    failAt(at);
                }
                takeCode(';');
            }
            return -1;
        }

        private void begin(int[] cells, int i, int n) {
            System.arraycopy(cells, i, codes, 0, n);
            length = n;
            at = 0;
            homes = 0;
            churches = 0;
            ok = true;
        }

        void layOut(Land land, int items) {
            land.empty();
            for (int item = 0; item < items && item < MOST_ITEMS; item++) {
                if (kinds[item] == HOME) {
                    land.addHome(xs[item], ys[item], numbers[item]);
                } else {
                    land.addChurch(kinds[item], xs[item], ys[item], numbers[item]);
                }
            }
        }

        private void readItem(int item) {
            readKind(item);
            xs[item] = readNumber(0, LAST_SPOT);
            takeCode(',');
            ys[item] = readNumber(0, LAST_SPOT);
            if (kinds[item] == HOME) {
                takeCode('*');
                numbers[item] = readNumber(1, MOST_HEADS);
            } else {
                takeCode('=');
                numbers[item] = readNumber(0, MOST_SEATS);
            }
        }

        private void readKind(int item) {
            int code = codeHere();
            kinds[item] = kindOf(code);
            if (code == 'h') {
                homes++;
            } else {
                churches++;
            }
            if (kinds[item] == NO_KIND || homes > MOST_HOMES || churches > MOST_CHURCHES) {
                failAt(at);
            }
            at++;
        }

        private static int kindOf(int code) {
            switch (code) {
                case 'h': return HOME;
                case 'q': return SQUARE;
                case 's': return STEPS;
                case 'f': return FERRY;
                default: return NO_KIND;
            }
        }

        private int readNumber(int least, int most) {
            int first = at;
            if (!isDigit(codeHere())) {
                failAt(first);
                return 0;
            }
            int number = codeHere() - '0';
            at++;
            if (isDigit(codeHere())) {
                number = 10 * number + codeHere() - '0';
                at++;
            }
            if (!isWithin(number, least, most)) {
                failAt(first);
            }
            return number;
        }

        private void takeCode(int code) {
            if (codeHere() != code) {
                failAt(at);
            }
            at++;
        }

        private static boolean isDigit(int code) {
            return isWithin(code, '0', '9');
        }

        /** -1, which is no code of a text: the text has ended. */
        private int codeHere() {
            return at < length ? codes[at] : -1;
        }

        /** Only the first counts; what is read behind it is not used. */
        private void failAt(int place) {
            if (ok) {
                firstFault = place;
                ok = false;
            }
        }
    }

    /**
     * Finds the sending of the least miles: heads are seated home by home, each by the cheapest chain in
     * which it takes a seat and others move on, until one comes to a seat that is left.
     */
    private static final class Sender {
        /** Of home h and church c at h * MOST_CHURCHES + c; ENDLESS: it may not go there. */
        private final int[] far = new int[MOST_HOMES * MOST_CHURCHES];
        private final int[] sent = new int[MOST_HOMES * MOST_CHURCHES];
        private final int[] heads = new int[MOST_HOMES];
        private final int[] room = new int[MOST_CHURCHES];
        private final int[] taken = new int[MOST_CHURCHES];
        /** What it costs at the least if one head goes from church a to b, at a * MOST_CHURCHES + b. */
        private final int[] step = new int[MOST_CHURCHES * MOST_CHURCHES];
        private final int[] stepHome = new int[MOST_CHURCHES * MOST_CHURCHES];
        private final int[] cost = new int[MOST_CHURCHES];
        private final int[] before = new int[MOST_CHURCHES];
        final int[] weights = new int[MOST_CHURCHES];
        private int homes;
        private int churches;

        void load(Land land) {
            homes = land.homes;
            churches = land.churches;
            for (int h = 0; h < homes; h++) {
                heads[h] = land.heads[h];
            }
            for (int c = 0; c < churches; c++) {
                room[c] = land.seats[c];
                putChurch(land, c, land.churchX[c], land.churchY[c]);
            }
        }

        void putChurch(Land land, int c, int x, int y) {
            for (int h = 0; h < homes; h++) {
                int one = land.farBetween(land.kind[c], land.homeX[h], land.homeY[h], x, y);
                far[h * MOST_CHURCHES + c] = land.isBarred(h, c) ? ENDLESS : one;
            }
        }

        void shutAllBut(int set) {
            for (int c = 0; c < churches; c++) {
                if ((set >> c & 1) == 0) {
                    room[c] = 0;
                }
            }
        }

        void forbidBeyond(int limit) {
            for (int h = 0; h < homes; h++) {
                for (int c = 0; c < churches; c++) {
                    if (far[h * MOST_CHURCHES + c] > limit) {
                        far[h * MOST_CHURCHES + c] = ENDLESS;
                    }
                }
            }
        }

        /** The least miles, or NONE. */
        int send() {
            for (int c = 0; c < churches; c++) {
                taken[c] = 0;
            }
            for (int i = 0; i < sent.length; i++) {
                sent[i] = 0;
            }
            for (int h = 0; h < homes; h++) {
                if (!seatHome(h)) {
                    return NONE;
                }
            }
            return sumOfMiles();
        }

        private int sumOfMiles() {
            int sum = 0;
            for (int h = 0; h < homes; h++) {
                for (int c = 0; c < churches; c++) {
                    sum += sent[h * MOST_CHURCHES + c] * far[h * MOST_CHURCHES + c];
                }
            }
            return sum;
        }

        private boolean seatHome(int h) {
            int left = heads[h];
            // each round seats one head at least
            for (int round = 0; round < MOST_HEADS && left > 0; round++) {
                findSteps();
                startAt(h);
                spread();
                int end = cheapestWithRoom();
                if (end < 0) {
                    return false;
                }
                left -= seatAlong(h, end, left);
            }
            return left == 0;
        }

        private void findSteps() {
            for (int i = 0; i < step.length; i++) {
                step[i] = ENDLESS;
            }
            for (int h = 0; h < homes; h++) {
                for (int a = 0; a < churches; a++) {
                    if (sent[h * MOST_CHURCHES + a] > 0) {
                        findStepsOf(h, a);
                    }
                }
            }
        }

        private void findStepsOf(int h, int a) {
            int farNow = far[h * MOST_CHURCHES + a];
            for (int b = 0; b < churches; b++) {
                int farThen = far[h * MOST_CHURCHES + b];
                if (farThen < ENDLESS && farThen - farNow < step[a * MOST_CHURCHES + b]) {
                    step[a * MOST_CHURCHES + b] = farThen - farNow;
                    stepHome[a * MOST_CHURCHES + b] = h;
                }
            }
        }

        private void startAt(int h) {
            for (int c = 0; c < churches; c++) {
                cost[c] = far[h * MOST_CHURCHES + c];
                before[c] = -1;
            }
        }

        /** No ring of steps costs less than nothing, so chains that go through each church once are enough. */
        private void spread() {
            boolean changed = true;
            for (int round = 0; round < churches && changed; round++) {
                changed = false;
                for (int a = 0; a < churches; a++) {
                    if (cost[a] < ENDLESS && spreadFrom(a)) {
                        changed = true;
                    }
                }
            }
        }

        private boolean spreadFrom(int a) {
            boolean changed = false;
            for (int b = 0; b < churches; b++) {
                int more = step[a * MOST_CHURCHES + b];
                if (more < ENDLESS && cost[a] + more < cost[b]) {
                    cost[b] = cost[a] + more;
                    before[b] = a;
                    changed = true;
                }
            }
            return changed;
        }

        private int cheapestWithRoom() {
            int found = -1;
            for (int c = 0; c < churches; c++) {
                boolean free = taken[c] < room[c] && cost[c] < ENDLESS;
                if (free && (found < 0 || cost[c] < cost[found])) {
                    found = c;
                }
            }
            return found;
        }

        /** How many heads of the home, of those left, get seats by the chain that ends there. */
        private int seatAlong(int h, int end, int left) {
            int n = Math.min(left, room[end] - taken[end]);
            int c = end;
            for (int k = 0; k < churches && before[c] >= 0; k++) {
                n = Math.min(n, sent[moverTo(c) * MOST_CHURCHES + before[c]]);
                c = before[c];
            }
            c = end;
            for (int k = 0; k < churches && before[c] >= 0; k++) {
                int mover = moverTo(c) * MOST_CHURCHES;
                sent[mover + c] += n;
                c = before[c];
                sent[mover + c] -= n;
            }
            sent[h * MOST_CHURCHES + c] += n;
            taken[end] += n;
            return n;
        }

        private int moverTo(int c) {
            return stepHome[before[c] * MOST_CHURCHES + c];
        }

        /** A seat more saves what the best chain saves that frees a seat anywhere and takes the new one. */
        void weigh() {
            findSteps();
            for (int c = 0; c < churches; c++) {
                cost[c] = taken[c] > 0 ? 0 : ENDLESS;
                before[c] = -1;
            }
            spread();
            for (int c = 0; c < churches; c++) {
                weights[c] = Math.max(0, -cost[c]);
            }
        }

        int lineOf(int h) {
            int least = ENDLESS;
            int set = 0;
            for (int c = 0; c < churches; c++) {
                int together = far[h * MOST_CHURCHES + c] + weights[c];
                if (far[h * MOST_CHURCHES + c] < ENDLESS && together <= least) {
                    set = together < least ? 1 << c : set | 1 << c;
                    least = together;
                }
            }
            return set;
        }

        int longest() {
            int most = 0;
            for (int i = 0; i < sent.length; i++) {
                if (sent[i] > 0) {
                    most = Math.max(most, far[i]);
                }
            }
            return most;
        }
    }

    /** Tries the churches of the homes in the order of rows, so that of several the first is kept. */
    private static final class Families {
        /** Of home h and church c the miles of all its heads, at h * MOST_CHURCHES + c; ENDLESS: barred. */
        private final int[] cost = new int[MOST_FAMILIES * MOST_CHURCHES];
        private final int[] heads = new int[MOST_FAMILIES];
        private final int[] left = new int[MOST_CHURCHES];
        /** What the homes from h on cost at the least, if seats were not counted. */
        private final int[] atLeast = new int[MOST_FAMILIES + 1];
        private final int[] tried = new int[MOST_FAMILIES];
        final int[] chosen = new int[MOST_FAMILIES];
        private int homes;
        private int churches;
        /** ENDLESS: there is no such sending. */
        int least;

        void seek(Land land) {
            homes = Math.min(land.homes, MOST_FAMILIES);
            churches = land.churches;
            for (int c = 0; c < churches; c++) {
                left[c] = land.seats[c];
            }
            atLeast[homes] = 0;
            for (int h = homes - 1; h >= 0; h--) {
                heads[h] = land.heads[h];
                atLeast[h] = Math.min(ENDLESS, atLeast[h + 1] + loadHome(land, h));
            }
            least = ENDLESS;
            tryHome(0, 0);
        }

        private int loadHome(Land land, int h) {
            int nearest = ENDLESS;
            for (int c = 0; c < churches; c++) {
                int one = land.farTo(c, land.homeX[h], land.homeY[h]);
                int all = land.isBarred(h, c) ? ENDLESS : one * land.heads[h];
                cost[h * MOST_CHURCHES + c] = all;
                nearest = Math.min(nearest, all);
            }
            return nearest;
        }

        private void tryHome(int h, int sum) {
            if (sum + atLeast[h] >= least) {
                return;
            }
            if (h >= homes) {
                keep(sum);
                return;
            }
            for (int c = 0; c < churches; c++) {
                int more = cost[h * MOST_CHURCHES + c];
                if (more < ENDLESS && heads[h] <= left[c]) {
                    tried[h] = c;
                    left[c] -= heads[h];
                    tryHome(h + 1, sum + more);
                    left[c] += heads[h];
                }
            }
        }

        private void keep(int sum) {
            least = sum;
            for (int h = 0; h < homes; h++) {
                chosen[h] = tried[h];
            }
        }
    }

    private static final class Sheet {
        final int[] cells = new int[MOST_CELLS];
        boolean hasRow;
        int lane;
        private int size;

        void renew(int newLane, int n) {
            for (int i = 0; i < cells.length; i++) {
                cells[i] = 0;
            }
            hasRow = true;
            lane = newLane;
            size = n;
        }

        boolean hasCell(int i) {
            return i >= 0 && i < size;
        }

        /** n is not below 0. */
        boolean hasCells(int i, int n) {
            return i >= 0 && i <= size && n <= size - i;
        }

        void setCell(int i, int v) {
            switch (lane) {
                case BYTES: cells[i] = (byte) v; break;
                case SHORTS: cells[i] = (short) v; break;
                default: cells[i] = v; break;
            }
        }
    }

    /** The bodies by which churches tell and ring; each leaves its number as it begins. */
    private static final class Teller {
        int left;

        int tellOf(int kind, int seats) {
            switch (kind) {
                case SQUARE: return squareTells(seats);
                case STEPS: return stepsTells(seats);
                default: return ferryTells(seats);
            }
        }

        int ringOf(int kind, int c) {
            leave(kind == FERRY ? 5 : 4);
            return kind == FERRY ? 44 : c;
        }

        private int squareTells(int seats) {
            leave(1);
            return seats;
        }

        private int stepsTells(int seats) {
            leave(2);
            return squareTells(seats) + 100;
        }

        private int ferryTells(int seats) {
            leave(3);
            return stepsTells(seats) + squareTells(seats);
        }

        private void leave(int number) {
            left = 31 * left + number;
        }
    }
}
