import java.util.Arrays;

/**
 * Glass that is blown while it is soft: pieces of rings that cool, hang and strain, recipes done on them,
 * ovens, bits put on, aims, jobs at one mouth and one bench, and sheets of numbers.
 */
public final class SoftGlass {
    public static final int UNKNOWN = -1, OUTSIDE = -2, STATE = -3, FULL = -4, NONE = -9;
    public static final long LOST = Long.MIN_VALUE;

    private static final int FAULT_NULL = 1, FAULT_CAST = 2, FAULT_INDEX = 3, FAULT_SIZE = 4;
    private static final int WAIT = 0, TURN = 1, BLOW = 2, MOUTH = 3;
    private static final int MOST_PIECES = 8, MOST_RINGS = 8, MOST_RECIPES = 6, MOST_ITEMS = 8, MOST_JOBS = 7;
    private static final int MOST_SHEETS = 4, MOST_CELLS = 60, LANES = 3, CELLS_OF_RING = 3;
    private static final int MOST_GLASS = 999, MOST_RADIUS = 99, MOST_HEAT = 1500;
    private static final int MOST_LATE = 20, MOST_ROW = 3, MOST_BEHIND = 100, LATEST_OF_HAND = 3;
    private static final int COOLEST_OVEN = 400, HOTTEST_OVEN = 560, OVEN_STEP = 20, MOST_HOURS = 40;

    private final Piece[] pieces = new Piece[MOST_PIECES];
    /** Pieces that are only looked at: stage n is what n recipes of a row have made. */
    private final Piece[] stages = new Piece[MOST_ROW + 1];
    private final Piece bit = new Piece(false);
    /** One more than may be kept: a text is read into the next one, even if that can't be kept. */
    private final Recipe[] recipes = new Recipe[MOST_RECIPES + 1];
    private final Text text = new Text();
    private final Shop shop = new Shop();
    private final Sheet[] sheets = new Sheet[MOST_SHEETS];
    private final int[] aimed = new int[MOST_RINGS];
    private int pieceCount;
    private int recipeCount;
    private int aimCount;
    private int traced;
    private int latestFault;

    public SoftGlass() {
        for (int k = 0; k < MOST_PIECES; k++) {
            pieces[k] = new Piece(true);
        }
        for (int k = 0; k <= MOST_ROW; k++) {
            stages[k] = new Piece(true);
        }
        for (int k = 0; k <= MOST_RECIPES; k++) {
            recipes[k] = new Recipe();
        }
        for (int k = 0; k < MOST_SHEETS; k++) {
            sheets[k] = new Sheet();
        }
    }

    // ---- 1 pieces

    public int piece(int sheet, int lane, int i, int n) {
        int bar = barOfTaking(sheet, lane, i, n, CELLS_OF_RING);
        if (bar != 0) {
            return bar;
        }
        if (!areRings(sheets[sheet], i, n)) {
            return OUTSIDE;
        }
        if (pieceCount >= MOST_PIECES) {
            return FULL;
        }
        pieces[pieceCount].gather(sheets[sheet], i, n);
        return pieceCount++;
    }

    public int ring(int p, int k, int what) {
        if (!isPiece(p) || !pieces[p].hasRing(k)) {
            return UNKNOWN;
        }
        return isFact(what) ? pieces[p].factOfRing(k, what) : OUTSIDE;
    }

    public int ofPiece(int p, int what) {
        if (!isPiece(p)) {
            return UNKNOWN;
        }
        return isFact(what) ? pieces[p].factOfAll(what) : OUTSIDE;
    }

    public int tenth(int p, int kind, int n) {
        if (!isPiece(p)) {
            return UNKNOWN;
        }
        if (!isKind(kind) || !within(n, 0, 200)) {
            return OUTSIDE;
        }
        Piece x = pieces[p];
        if (x.hasFallen()) {
            return STATE;
        }
        x.goTenths(kind, n);
        return x.off;
    }

    // ---- 2 recipes

    public int recipe(int sheet, int lane, int i, int n) {
        int bar = barOfTaking(sheet, lane, i, n, 1);
        if (bar != 0) {
            return bar;
        }
        text.take(sheets[sheet], i, n);
        int place = recipes[recipeCount].read(text);
        if (place >= 0) {
            return -100 - place;
        }
        return recipeCount < MOST_RECIPES ? recipeCount++ : FULL;
    }

    public int item(int q, int k) {
        if (isRecipe(q) && k == -1) {
            return recipes[q].count;
        }
        return isItem(q, k) ? 100 * recipes[q].letters[k] + recipes[q].numbers[k] : UNKNOWN;
    }

    public int make(int p, int q) {
        if (!isPiece(p) || !isRecipe(q)) {
            return UNKNOWN;
        }
        return pieces[p].hasFallen() ? STATE : recipes[q].doOn(pieces[p], -1, 0);
    }

    public int look(int p, int q, int k, int d, int r, int what) {
        if (!isPiece(p) || !isRecipe(q) || (k != -1 && !isItem(q, k))) {
            return UNKNOWN;
        }
        if (k != -1 && !isLateness(d)) {
            return OUTSIDE;
        }
        if (what < 10 && !pieces[p].hasRing(r)) {
            return UNKNOWN;
        }
        if (!isFact(what) && !isFact(what - 10)) {
            return OUTSIDE;
        }
        if (pieces[p].hasFallen()) {
            return STATE;
        }
        Piece x = stages[0];
        x.becomeLike(pieces[p]);
        recipes[q].doOn(x, k, d);
        return what < 10 ? x.factOfRing(r, what) : x.factOfAll(what - 10);
    }

    // ---- 3 ovens, bits

    public int oven(int p, int t, int n) {
        if (!isPiece(p)) {
            return UNKNOWN;
        }
        if (!within(t, COOLEST_OVEN, HOTTEST_OVEN) || !within(n, 0, MOST_HOURS)) {
            return OUTSIDE;
        }
        Piece x = pieces[p];
        if (!x.mayBake()) {
            return STATE;
        }
        for (int hour = 0; hour < n; hour++) {
            x.bakeHour(t);
        }
        x.leaveOven(t);
        return x.greatestStrain();
    }

    public int quickest(int p, int x, int what) {
        if (!isPiece(p)) {
            return UNKNOWN;
        }
        if (!within(x, 0, 99) || !within(what, 0, 1)) {
            return OUTSIDE;
        }
        if (!pieces[p].mayBake()) {
            return STATE;
        }
        int fewest = MOST_HOURS + 1;
        int degrees = NONE;
        for (int t = COOLEST_OVEN; t <= HOTTEST_OVEN; t += OVEN_STEP) {
            int hours = hoursToBake(pieces[p], t, x);
            if (hours < fewest) {
                fewest = hours;
                degrees = t;
            }
        }
        if (fewest > MOST_HOURS) {
            return NONE;
        }
        return what == 0 ? fewest : degrees;
    }

    public int holds(int p, int g, int r, int h, int t) {
        int bar = barOfBit(p, g, r, h, within(t, 0, MOST_BEHIND));
        if (bar != 0) {
            return bar;
        }
        Piece x = stages[0];
        x.becomeLike(pieces[p]);
        bit.becomeBit(g, r, h);
        turnBoth(x, t);
        return x.holdsBit(bit) ? 1 : 0;
    }

    public int span(int p, int g, int r, int h, int what) {
        int bar = barOfBit(p, g, r, h, within(what, 0, 2));
        if (bar != 0) {
            return bar;
        }
        Piece x = stages[0];
        x.becomeLike(pieces[p]);
        bit.becomeBit(g, r, h);
        int first = NONE;
        int last = NONE;
        int times = 0;
        for (int t = 0; t <= MOST_BEHIND; t++) {
            if (x.holdsBit(bit)) {
                first = times == 0 ? t : first;
                last = t;
                times++;
            }
            turnBoth(x, 1);
        }
        if (what == 2) {
            return times;
        }
        return what == 0 ? first : last;
    }

    public long odds(int p, int g, int r, int h, int t, int hand, int which) {
        boolean asTold = within(t, 0, MOST_BEHIND - LATEST_OF_HAND) && within(hand, 1, 9999) && within(which, 0, 1);
        if (barOfBit(p, g, r, h, asTold) != 0) {
            return LOST;
        }
        Piece x = stages[0];
        x.becomeLike(pieces[p]);
        bit.becomeBit(g, r, h);
        turnBoth(x, t);
        int good = 0;
        int all = 0;
        int weights = hand;
        for (int late = 0; late <= LATEST_OF_HAND; late++) {
            int weight = weights % 10;
            weights = weights / 10;
            all += weight;
            good += x.holdsBit(bit) ? weight : 0;
            turnBoth(x, 1);
        }
        int common = greatestDivisor(good, all);
        return (which == 0 ? good : all) / common;
    }

    public int join(int p, int g, int r, int h, int t) {
        int bar = barOfBit(p, g, r, h, within(t, 0, MOST_BEHIND));
        if (bar != 0) {
            return bar;
        }
        Piece x = pieces[p];
        if (x.rings >= MOST_RINGS) {
            return FULL;
        }
        bit.becomeBit(g, r, h);
        turnBoth(x, t);
        if (!x.holdsBit(bit)) {
            return 0;
        }
        x.addRing(g, r, bit.heat[0]);
        return 1;
    }

    // ---- 4 aims

    public int aim(int sheet, int lane, int i, int n) {
        int bar = barOfTaking(sheet, lane, i, n, 1);
        if (bar != 0) {
            return bar;
        }
        if (!areRadii(sheets[sheet], i, n)) {
            return OUTSIDE;
        }
        for (int k = 0; k < n; k++) {
            aimed[k] = sheets[sheet].cells[i + k];
        }
        aimCount = n;
        return n;
    }

    public int miss(int p) {
        if (!isPiece(p)) {
            return UNKNOWN;
        }
        return aimCount == 0 ? STATE : pieces[p].missOf(aimed, aimCount);
    }

    public int nearest(int p, int n, int k) {
        if (!isPiece(p)) {
            return UNKNOWN;
        }
        if (!within(n, 1, MOST_ROW)) {
            return OUTSIDE;
        }
        if (!within(k, -1, n - 1)) {
            return UNKNOWN;
        }
        if (aimCount == 0 || recipeCount == 0 || pieces[p].hasFallen()) {
            return STATE;
        }
        stages[0].becomeLike(pieces[p]);
        int rows = power(recipeCount, n);
        int least = 0;
        int best = 0;
        for (int row = 0; row < rows; row++) {
            int missed = missOfRow(row, n);
            if (row == 0 || missed < least) {
                least = missed;
                best = row;
            }
        }
        return k == -1 ? least : recipeInRow(best, n, k);
    }

    public int spoils(int p, int q, int d, int what) {
        if (!isPiece(p) || !isRecipe(q)) {
            return UNKNOWN;
        }
        if (!isLateness(d) || !within(what, 0, 1)) {
            return OUTSIDE;
        }
        if (aimCount == 0 || pieces[p].hasFallen()) {
            return STATE;
        }
        int greatest = -1;
        int worst = 0;
        for (int k = 0; k < recipes[q].count; k++) {
            stages[0].becomeLike(pieces[p]);
            recipes[q].doOn(stages[0], k, d);
            int missed = stages[0].missOf(aimed, aimCount);
            if (missed > greatest) {
                greatest = missed;
                worst = k;
            }
        }
        return what == 0 ? worst : greatest;
    }

    // ---- 5 mornings

    public int job(int mouth, int bench, int worth) {
        if (!within(mouth, 0, 99) || !within(bench, 0, 99) || !within(worth, 0, 99)) {
            return OUTSIDE;
        }
        return shop.add(mouth, bench, worth);
    }

    public int order(int set, int k) {
        if (!within(set, 0, shop.sets() - 1)) {
            return OUTSIDE;
        }
        if (!within(k, -1, MOST_JOBS - 1)) {
            return UNKNOWN;
        }
        return k == -1 ? shop.doneWith(set, 0, 0) : shop.jobInRow(set, k);
    }

    public int morning(int t, int what) {
        if (!within(t, 0, 999) || !within(what, 0, 1)) {
            return OUTSIDE;
        }
        int set = shop.worthiest(t);
        return what == 0 ? set : shop.worthOf(set);
    }

    // ---- 6 sheets, parts

    public int sheet(int k, int lane, int n) {
        latestFault = 0;
        if (!isSheet(k)) {
            return UNKNOWN;
        }
        if (!isLane(lane) || n > MOST_CELLS) {
            return OUTSIDE;
        }
        if (n < 0) {
            return failed(FAULT_SIZE);
        }
        sheets[k].renew(lane, n);
        return 1;
    }

    public int lose(int k) {
        if (!isSheet(k)) {
            return UNKNOWN;
        }
        int had = sheets[k].isHeld() ? 1 : 0;
        sheets[k].clear();
        return had;
    }

    public int put(int k, int i, int v) {
        latestFault = 0;
        if (!isSheet(k)) {
            return UNKNOWN;
        }
        if (!sheets[k].isHeld()) {
            return failed(FAULT_NULL);
        }
        if (!sheets[k].covers(i, 1)) {
            return failed(FAULT_INDEX);
        }
        sheets[k].write(i, v);
        return 1;
    }

    public long cell(int k, int i, int lane) {
        // A cell is taken as a row of one: a length of 1 never comes to SIZE.
        return barOfTaking(k, lane, i, 1, 1) != 0 ? LOST : sheets[k].cells[i];
    }

    public int copy(int k, int i, int other, int j, int n) {
        latestFault = 0;
        if (!isSheet(k) || !isSheet(other)) {
            return UNKNOWN;
        }
        Sheet from = sheets[k];
        Sheet to = sheets[other];
        if (!from.isHeld() || !to.isHeld()) {
            return failed(FAULT_NULL);
        }
        if (from.lane != to.lane) {
            return failed(FAULT_CAST);
        }
        if (!from.covers(i, n) || !to.covers(j, n)) {
            return failed(FAULT_INDEX);
        }
        System.arraycopy(from.cells, i, to.cells, j, n);
        return n;
    }

    public int tell(int q, int k) {
        if (!isItem(q, k)) {
            return UNKNOWN;
        }
        int number = recipes[q].numbers[k];
        switch (recipes[q].kindOf(k)) {
            case TURN:
                return bodyOfTurn(number);
            case BLOW:
                return bodyOfBlow(number);
            case MOUTH:
                return bodyOfMouth(number);
            default:
                return bodyOfWait(number);
        }
    }

    public int call(int q, int k) {
        if (!isItem(q, k)) {
            return UNKNOWN;
        }
        if (recipes[q].kindOf(k) == BLOW) {
            mark(5);
            return 80;
        }
        mark(4);
        return k;
    }

    public int as(int q, int k, int kind) {
        latestFault = 0;
        if (!isItem(q, k)) {
            return UNKNOWN;
        }
        if (!isKind(kind)) {
            return OUTSIDE;
        }
        return isOfKind(recipes[q].kindOf(k), kind) ? 1 : failed(FAULT_CAST);
    }

    public int trace() {
        return traced;
    }

    public int fault() {
        return latestFault;
    }

    public int many(int what) {
        switch (what) {
            case 0:
                return pieceCount;
            case 1:
                return recipeCount;
            case 2:
                return shop.count;
            case 3:
                return aimCount;
            default:
                return OUTSIDE;
        }
    }

    // ---- what the numbers of a call must be

    private static boolean within(int v, int least, int most) {
        return v >= least && v <= most;
    }

    private static boolean isKind(int kind) {
        return within(kind, WAIT, MOUTH);
    }

    private static boolean isLane(int lane) {
        return within(lane, 0, LANES - 1);
    }

    private static boolean isFact(int what) {
        return within(what, 0, 5);
    }

    private static boolean isLateness(int d) {
        return within(d, 0, MOST_LATE);
    }

    private static boolean isRing(int glass, int radius, int heat) {
        return within(glass, 1, MOST_GLASS) && within(radius, 1, MOST_RADIUS) && radius <= glass
            && within(heat, 0, MOST_HEAT);
    }

    private boolean isPiece(int p) {
        return within(p, 0, pieceCount - 1);
    }

    private boolean isRecipe(int q) {
        return within(q, 0, recipeCount - 1);
    }

    private boolean isItem(int q, int k) {
        return isRecipe(q) && within(k, 0, recipes[q].count - 1);
    }

    private static boolean isSheet(int k) {
        return within(k, 0, MOST_SHEETS - 1);
    }

    private static boolean areRings(Sheet s, int from, int n) {
        if (!within(n, 1, MOST_RINGS)) {
            return false;
        }
        for (int k = 0; k < n; k++) {
            int at = from + CELLS_OF_RING * k;
            if (!isRing(s.cells[at], s.cells[at + 1], s.cells[at + 2])) {
                return false;
            }
        }
        return true;
    }

    private static boolean areRadii(Sheet s, int from, int n) {
        if (!within(n, 1, MOST_RINGS)) {
            return false;
        }
        for (int k = 0; k < n; k++) {
            if (!within(s.cells[from + k], 1, MOST_RADIUS)) {
                return false;
            }
        }
        return true;
    }

    private int failed(int kindOfFault) {
        latestFault = kindOfFault;
        return -10 - kindOfFault;
    }

    /** What bars n groups of cells from being taken of a sheet, as a row of a lane: a refusal, a fault, or 0. */
    private int barOfTaking(int k, int lane, int i, int n, int cellsOfGroup) {
        latestFault = 0;
        if (!isSheet(k)) {
            return UNKNOWN;
        }
        if (!isLane(lane)) {
            return OUTSIDE;
        }
        Sheet s = sheets[k];
        if (!s.isHeld()) {
            return failed(FAULT_NULL);
        }
        if (s.lane != lane) {
            return failed(FAULT_CAST);
        }
        if (n < 0) {
            return failed(FAULT_SIZE);
        }
        return s.covers(i, (long) n * cellsOfGroup) ? 0 : failed(FAULT_INDEX);
    }

    /** What bars a bit from a piece: a refusal, or 0; asTold is whether the call's other numbers are as told. */
    private int barOfBit(int p, int g, int r, int h, boolean asTold) {
        if (!isPiece(p)) {
            return UNKNOWN;
        }
        if (!isRing(g, r, h) || !asTold) {
            return OUTSIDE;
        }
        return pieces[p].hasFallen() ? STATE : 0;
    }

    // ---- parts of longer calls

    /** The fewest hours in an oven of t degrees that leave no strain above x; more than MOST_HOURS if none do. */
    private int hoursToBake(Piece raw, int t, int x) {
        Piece baked = stages[0];
        baked.becomeLike(raw);
        for (int hours = 0; hours <= MOST_HOURS; hours++) {
            if (baked.strainBehindOven(t) <= x) {
                return hours;
            }
            baked.bakeHour(t);
        }
        return MOST_HOURS + 1;
    }

    private void turnBoth(Piece x, int n) {
        for (int k = 0; k < n; k++) {
            x.goTenth(TURN);
            bit.goTenth(TURN);
        }
    }

    /** The greatest number that divides both; all is above 0. */
    private static int greatestDivisor(int good, int all) {
        for (int d = all; d > 1; d--) {
            if (good % d == 0 && all % d == 0) {
                return d;
            }
        }
        return 1;
    }

    private static int power(int base, int n) {
        int product = 1;
        for (int k = 0; k < n; k++) {
            product *= base;
        }
        return product;
    }

    /** Rows are numbers whose digits are recipes, so that they count up in the order of rows. */
    private int recipeInRow(int row, int n, int k) {
        int unit = power(recipeCount, n - 1 - k);
        return unit > 0 && recipeCount > 0 ? row / unit % recipeCount : 0;
    }

    /** The miss behind a row; rows must be asked for from 0 on, as a stage is kept until its digit changes. */
    private int missOfRow(int row, int n) {
        for (int k = 0; k < n; k++) {
            int unit = power(recipeCount, n - 1 - k);
            if (unit > 0 && row % unit == 0) {
                stages[k + 1].becomeLike(stages[k]);
                recipes[recipeInRow(row, n, k)].doOn(stages[k + 1], -1, 0);
            }
        }
        return stages[n].missOf(aimed, aimCount);
    }

    private void mark(int body) {
        traced = 31 * traced + body;
    }

    private int bodyOfWait(int number) {
        mark(1);
        return number;
    }

    private int bodyOfTurn(int number) {
        mark(2);
        return bodyOfWait(number) + 100;
    }

    private int bodyOfBlow(int number) {
        mark(3);
        int turned = bodyOfTurn(number);
        return turned + bodyOfWait(number);
    }

    private int bodyOfMouth(int number) {
        mark(6);
        return bodyOfTurn(number) + 1000;
    }

    private static boolean isOfKind(int own, int kind) {
        return kind == own || kind == WAIT || (kind == TURN && own != WAIT);
    }

    /** A piece of glass, or a bit, which is one ring without an iron. */
    private static final class Piece {
        private static final int MOST_OFF = 40, STILLNESS = 5, AIR = 20, IRON = 300, FLAME = 1200;

        private final boolean onIron;
        private final int[] glass = new int[MOST_RINGS];
        private final int[] radius = new int[MOST_RINGS];
        private final int[] heat = new int[MOST_RINGS];
        /** Strain k is the one between ring k and the next. */
        private final int[] strain = new int[MOST_RINGS];
        /** The heats as they were ahead of a tenth. */
        private final int[] was = new int[MOST_RINGS];
        private int rings;
        private int off;

        Piece(boolean onIron) {
            this.onIron = onIron;
        }

        void gather(Sheet s, int from, int n) {
            rings = 0;
            off = 0;
            for (int k = 0; k < n; k++) {
                int at = from + CELLS_OF_RING * k;
                addRing(s.cells[at], s.cells[at + 1], s.cells[at + 2]);
            }
        }

        void becomeBit(int g, int r, int h) {
            rings = 0;
            off = 0;
            addRing(g, r, h);
        }

        void addRing(int g, int r, int h) {
            if (rings >= MOST_RINGS) {
                return;
            }
            glass[rings] = g;
            radius[rings] = r;
            heat[rings] = h;
            strain[rings] = 0;
            rings++;
        }

        void becomeLike(Piece other) {
            System.arraycopy(other.glass, 0, glass, 0, MOST_RINGS);
            System.arraycopy(other.radius, 0, radius, 0, MOST_RINGS);
            System.arraycopy(other.heat, 0, heat, 0, MOST_RINGS);
            System.arraycopy(other.strain, 0, strain, 0, MOST_RINGS);
            rings = other.rings;
            off = other.off;
        }

        boolean hasRing(int k) {
            return within(k, 0, rings - 1);
        }

        boolean hasFallen() {
            return off > MOST_OFF;
        }

        int thick(int k) {
            return radius[k] > 0 ? glass[k] / radius[k] : 0;
        }

        static int softAt(int degrees) {
            return degrees < 600 ? 0 : (degrees - 500) / 100;
        }

        /** The ring of the greatest soft, of several the first. */
        int softestRing() {
            int best = 0;
            for (int k = 1; k < rings; k++) {
                if (softAt(heat[k]) > softAt(heat[best])) {
                    best = k;
                }
            }
            return best;
        }

        int greatestSoft() {
            return softAt(heat[softestRing()]);
        }

        int greatestStrain() {
            int most = 0;
            for (int k = 0; k + 1 < rings; k++) {
                most = Math.max(most, strain[k]);
            }
            return most;
        }

        int allGlass() {
            int sum = 0;
            for (int k = 0; k < rings; k++) {
                sum += glass[k];
            }
            return sum;
        }

        int factOfRing(int k, int what) {
            switch (what) {
                case 0:
                    return glass[k];
                case 1:
                    return radius[k];
                case 2:
                    return heat[k];
                case 3:
                    return thick(k);
                case 4:
                    return softAt(heat[k]);
                default:
                    return k + 1 < rings ? strain[k] : 0;
            }
        }

        int factOfAll(int what) {
            switch (what) {
                case 0:
                    return rings;
                case 1:
                    return off;
                case 2:
                    return hasFallen() ? 1 : 0;
                case 3:
                    return greatestSoft();
                case 4:
                    return greatestStrain();
                default:
                    return allGlass();
            }
        }

        /** Goes n tenths, but none behind its fall: how many it went. */
        int goTenths(int kind, int n) {
            int took = 0;
            while (took < n && !hasFallen()) {
                goTenth(kind);
                took++;
            }
            return took;
        }

        void goTenth(int kind) {
            System.arraycopy(heat, 0, was, 0, MOST_RINGS);
            for (int k = 0; k < rings; k++) {
                heat[k] = nextHeat(k, kind == MOUTH);
            }
            for (int k = 0; k + 1 < rings; k++) {
                strainIfStiffened(k);
            }
            off = kind == WAIT ? off + greatestSoft() : Math.max(0, off - STILLNESS);
            if (kind == BLOW) {
                swell();
            }
        }

        private int nextHeat(int k, boolean inMouth) {
            int own = was[k];
            int next = own;
            if (inMouth) {
                next += (FLAME - own) / (2 + thick(k));
            } else {
                next -= (own - AIR) / (10 + thick(k));
            }
            if (k > 0) {
                next += (was[k - 1] - own) / 8;
            } else if (onIron) {
                next += (IRON - own) / 8;
            }
            if (k + 1 < rings) {
                next += (was[k + 1] - own) / 8;
            }
            return Math.max(0, Math.min(MOST_HEAT, next));
        }

        private void strainIfStiffened(int k) {
            boolean wasSoft = softAt(was[k]) > 0 || softAt(was[k + 1]) > 0;
            boolean isSoft = softAt(heat[k]) > 0 || softAt(heat[k + 1]) > 0;
            if (wasSoft && !isSoft) {
                strain[k] = Math.max(strain[k], Math.abs(heat[k] - heat[k + 1]) / 10);
            }
        }

        private void swell() {
            int k = softestRing();
            int most = Math.min(MOST_RADIUS, glass[k]);
            radius[k] = Math.min(most, radius[k] + softAt(heat[k]));
        }

        void jack(int k) {
            if (hasRing(k) && !hasFallen()) {
                radius[k] = Math.max(1, radius[k] - softAt(heat[k]));
            }
        }

        boolean mayBake() {
            return greatestSoft() == 0 && !hasFallen();
        }

        void bakeHour(int t) {
            for (int k = 0; k + 1 < rings; k++) {
                strain[k] -= strain[k] * (t - 390) / 200;
            }
        }

        private static int strainOfOven(int t) {
            return (t - 400) / 40;
        }

        /** The greatest strain, were it taken out of the oven now; a single ring has none that could grow. */
        int strainBehindOven(int t) {
            return rings > 1 ? greatestStrain() + strainOfOven(t) : 0;
        }

        void leaveOven(int t) {
            for (int k = 0; k + 1 < rings; k++) {
                strain[k] += strainOfOven(t);
            }
            Arrays.fill(heat, AIR);
        }

        boolean holdsBit(Piece put) {
            if (rings < 1) {
                return false;
            }
            int own = heat[rings - 1];
            int its = put.heat[0];
            return softAt(own) >= 2 && softAt(its) >= 2 && Math.abs(own - its) <= 200;
        }

        int missOf(int[] told, int toldCount) {
            int both = Math.min(rings, toldCount);
            int sum = 99 * (Math.max(rings, toldCount) - both);
            for (int k = 0; k < both; k++) {
                sum += Math.abs(radius[k] - told[k]);
            }
            return hasFallen() ? sum + 999 : sum;
        }
    }

    /** A recipe: its items as letters (0 .. 6) and numbers. */
    private static final class Recipe {
        private static final int UNTIL_STIFF = 4, UNTIL_SOFT = 5, JACK = 6;
        private static final int LONGEST_LOOK = 99;
        private static final int[] KINDS = {WAIT, TURN, BLOW, MOUTH, TURN, MOUTH, WAIT};
        private static final int[] MOST_DIGITS = {2, 2, 2, 2, 1, 1, 1};
        private static final int[] LEAST_NUMBER = {1, 1, 1, 1, 0, 1, 0};
        private static final int[] MOST_NUMBER = {99, 99, 99, 99, 9, 9, 7};

        private final int[] letters = new int[MOST_ITEMS];
        private final int[] numbers = new int[MOST_ITEMS];
        private int count;

        /** Takes its items of a text: -1, or the place of the text's first fault. */
        int read(Text text) {
            count = 0;
            int at = 0;
            for (int k = 0; k < MOST_ITEMS; k++) {
                int letter = text.letterAt(at);
                if (letter < 0) {
                    return at;
                }
                int digits = text.digitsAt(at + 1, MOST_DIGITS[letter]);
                int number = text.numberAt(at + 1, digits);
                if (digits == 0 || !within(number, LEAST_NUMBER[letter], MOST_NUMBER[letter])) {
                    return at + 1;
                }
                letters[k] = letter;
                numbers[k] = number;
                count = k + 1;
                at += 1 + digits;
                if (text.endsAt(at)) {
                    return -1;
                }
                if (!text.partsAt(at)) {
                    return at;
                }
                at++;
            }
            // The last item there may be was parted from a further one: that sign is the fault.
            return at - 1;
        }

        int kindOf(int k) {
            return KINDS[letters[k]];
        }

        /** Does the items on a piece, late by d at one of them (-1: at none): how many tenths it took. */
        int doOn(Piece x, int lateItem, int d) {
            int took = 0;
            for (int k = 0; k < count; k++) {
                if (k == lateItem) {
                    took += x.goTenths(WAIT, d);
                }
                took += doItem(x, k);
            }
            return took;
        }

        private int doItem(Piece x, int k) {
            if (letters[k] == JACK) {
                x.jack(numbers[k]);
                return 0;
            }
            boolean byLook = letters[k] == UNTIL_STIFF || letters[k] == UNTIL_SOFT;
            int most = byLook ? LONGEST_LOOK : numbers[k];
            int took = 0;
            while (took < most && !x.hasFallen() && goesOn(x, k)) {
                x.goTenth(kindOf(k));
                took++;
            }
            return took;
        }

        private boolean goesOn(Piece x, int k) {
            switch (letters[k]) {
                case UNTIL_STIFF:
                    return x.greatestSoft() > numbers[k];
                case UNTIL_SOFT:
                    return x.greatestSoft() < numbers[k];
                default:
                    return true;
            }
        }
    }

    /** Cells of a sheet, read as the codes of a recipe's text. */
    private static final class Text {
        private static final char[] LETTERS = {'w', 't', 'b', 'm', 'u', 'o', 'j'};
        /** Every told code is above 0. */
        private static final int NO_CODE = -1;

        private final int[] codes = new int[MOST_CELLS];
        private int length;

        /** Takes n cells from i on, which the sheet must have. */
        void take(Sheet s, int i, int n) {
            length = Math.min(n, MOST_CELLS);
            System.arraycopy(s.cells, i, codes, 0, length);
        }

        boolean endsAt(int at) {
            return at == length;
        }

        boolean partsAt(int at) {
            return codeAt(at) == ';';
        }

        /** Which of the letters stands at a place; -1 if none does. */
        int letterAt(int at) {
            int code = codeAt(at);
            for (int k = 0; k < LETTERS.length; k++) {
                if (LETTERS[k] == code) {
                    return k;
                }
            }
            return -1;
        }

        int digitsAt(int at, int most) {
            int digits = 0;
            while (digits < most && within(codeAt(at + digits), '0', '9')) {
                digits++;
            }
            return digits;
        }

        int numberAt(int at, int digits) {
            int number = 0;
            for (int k = 0; k < digits; k++) {
                number = 10 * number + codeAt(at + k) - '0';
            }
            return number;
        }

        private int codeAt(int at) {
            return within(at, 0, length - 1) ? codes[at] : NO_CODE;
        }
    }

    /** Jobs through one mouth and one bench. */
    private static final class Shop {
        private final int[] mouths = new int[MOST_JOBS];
        private final int[] benches = new int[MOST_JOBS];
        private final int[] worths = new int[MOST_JOBS];
        /** The jobs in an order of which every part is the quickest for the jobs in it (Johnson's rule). */
        private final int[] ranked = new int[MOST_JOBS];
        private int count;

        /** The new job's number, or FULL. */
        int add(int mouth, int bench, int worth) {
            if (count >= MOST_JOBS) {
                return FULL;
            }
            mouths[count] = mouth;
            benches[count] = bench;
            worths[count] = worth;
            int at = count;
            while (at > 0 && goesAhead(count, ranked[at - 1])) {
                ranked[at] = ranked[at - 1];
                at--;
            }
            ranked[at] = count;
            return count++;
        }

        private boolean goesAhead(int a, int b) {
            boolean feeds = mouths[a] <= benches[a];
            if (feeds != (mouths[b] <= benches[b])) {
                return feeds;
            }
            return feeds ? mouths[a] < mouths[b] : benches[a] > benches[b];
        }

        int sets() {
            return 1 << count;
        }

        /** When a set is done with at the earliest, if the mouth is free from m on and the bench from b on. */
        int doneWith(int set, int m, int b) {
            int mouthFree = m;
            int benchFree = b;
            for (int k = 0; k < count; k++) {
                int j = ranked[k];
                if (has(set, j)) {
                    mouthFree += mouths[j];
                    benchFree = Math.max(benchFree, mouthFree) + benches[j];
                }
            }
            return benchFree;
        }

        private static boolean has(int set, int j) {
            return (set >> j & 1) == 1;
        }

        /** The k-th job of the first of the quickest rows of a set; NONE if the row is shorter. */
        int jobInRow(int set, int k) {
            int goal = doneWith(set, 0, 0);
            int rest = set;
            int mouthFree = 0;
            int benchFree = 0;
            int j = NONE;
            for (int place = 0; place <= k; place++) {
                j = nextInRow(rest, mouthFree, benchFree, goal);
                if (j < 0) {
                    return NONE;
                }
                rest -= 1 << j;
                mouthFree += mouths[j];
                benchFree = Math.max(benchFree, mouthFree) + benches[j];
            }
            return j;
        }

        /** The first job behind which the rest can still be done with by the goal. */
        private int nextInRow(int rest, int m, int b, int goal) {
            for (int j = 0; j < count; j++) {
                if (has(rest, j)) {
                    int out = m + mouths[j];
                    if (doneWith(rest - (1 << j), out, Math.max(b, out) + benches[j]) == goal) {
                        return j;
                    }
                }
            }
            return NONE;
        }

        int worthOf(int set) {
            int sum = 0;
            for (int j = 0; j < count; j++) {
                sum += has(set, j) ? worths[j] : 0;
            }
            return sum;
        }

        int worthiest(int t) {
            int best = 0;
            for (int set = 1; set < sets(); set++) {
                if (worthOf(set) > worthOf(best) && doneWith(set, 0, 0) <= t) {
                    best = set;
                }
            }
            return best;
        }
    }

    /** A sheet: nothing, or a row of numbers of a lane. */
    private static final class Sheet {
        private static final int NOTHING = -1;

        private final int[] cells = new int[MOST_CELLS];
        private int lane;
        private int length = NOTHING;

        boolean isHeld() {
            return length != NOTHING;
        }

        void clear() {
            length = NOTHING;
        }

        void renew(int newLane, int n) {
            lane = newLane;
            length = n;
            Arrays.fill(cells, 0);
        }

        /** Whether n cells from i on are there; i may be just behind the last one, if n is 0. */
        boolean covers(int i, long n) {
            return i >= 0 && i <= length && n >= 0 && n <= length - i;
        }

        void write(int i, int v) {
            switch (lane) {
                case 0:
                    cells[i] = (byte) v;
                    break;
                case 1:
                    cells[i] = (short) v;
                    break;
                default:
                    cells[i] = v;
                    break;
            }
        }
    }
}
