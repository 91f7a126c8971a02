import java.util.ArrayList;
import java.util.List;

/**
 * The document once more, for the tests alone and by other means: rows that are real arrays, faults that the machine
 * itself throws, items as objects whose bodies call one another, every row and every set tried out.
 */
public final class Model {
    private static final int UNKNOWN = -1, OUTSIDE = -2, STATE = -3, FULL = -4, NONE = -9;

    private record Ring(int glass, int radius, int heat) {
        int thick() {
            return glass / radius;
        }

        int soft() {
            return heat < 600 ? 0 : (heat - 500) / 100;
        }
    }

    private static final class Gather {
        List<Ring> rings = new ArrayList<>();
        List<Integer> strains = new ArrayList<>();
        int off;

        Gather like() {
            Gather g = new Gather();
            g.rings.addAll(rings);
            g.strains.addAll(strains);
            g.off = off;
            return g;
        }

        boolean fell() {
            return off > 40;
        }

        int soft() {
            return rings.stream().mapToInt(Ring::soft).max().orElse(0);
        }

        int strain() {
            return strains.stream().mapToInt(s -> s).max().orElse(0);
        }

        void join(Ring r) {
            if (!rings.isEmpty()) {
                strains.add(0);
            }
            rings.add(r);
        }

        void tenth(boolean mouth, boolean hangs, boolean iron) {
            List<Ring> old = rings;
            rings = new ArrayList<>();
            for (int k = 0; k < old.size(); k++) {
                Ring r = old.get(k);
                int h = r.heat();
                int sum = h;
                sum += mouth ? (1200 - h) / (2 + r.thick()) : -((h - 20) / (10 + r.thick()));
                sum += k == 0 && iron ? (300 - h) / 8 : 0;
                sum += k > 0 ? (old.get(k - 1).heat() - h) / 8 : 0;
                sum += k < old.size() - 1 ? (old.get(k + 1).heat() - h) / 8 : 0;
                rings.add(new Ring(r.glass(), r.radius(), sum < 0 ? 0 : sum > 1500 ? 1500 : sum));
            }
            for (int k = 0; k < strains.size(); k++) {
                boolean before = old.get(k).soft() + old.get(k + 1).soft() > 0;
                boolean now = rings.get(k).soft() + rings.get(k + 1).soft() > 0;
                int size = Math.abs(rings.get(k).heat() - rings.get(k + 1).heat()) / 10;
                if (before && !now && size > strains.get(k)) {
                    strains.set(k, size);
                }
            }
            off = hangs ? off + soft() : off < 5 ? 0 : off - 5;
        }

        void grow(int k, int by) {
            Ring r = rings.get(k);
            int grown = r.radius() + by;
            grown = grown > 99 ? 99 : grown;
            grown = grown > r.glass() ? r.glass() : grown;
            rings.set(k, new Ring(r.glass(), grown < 1 ? 1 : grown, r.heat()));
        }

        void go(int kind) {
            tenth(kind == 3, kind == 0, true);
            if (kind == 2) {
                for (int k = 0; k < rings.size(); k++) {
                    if (rings.get(k).soft() == soft()) {
                        grow(k, soft());
                        return;
                    }
                }
            }
        }

        int ring(int k, int what) {
            Ring r = rings.get(k);
            int[] facts = {r.glass(), r.radius(), r.heat(), r.thick(), r.soft(), k < strains.size() ? strains.get(k) : 0};
            return facts[what];
        }

        int all(int what) {
            int[] facts = {rings.size(), off, fell() ? 1 : 0, soft(), strain(), rings.stream().mapToInt(Ring::glass).sum()};
            return facts[what];
        }

        void bake(int t, int hours) {
            for (int k = 0; k < strains.size(); k++) {
                int s = strains.get(k);
                for (int h = 0; h < hours; h++) {
                    s = s - s * (t - 390) / 200;
                }
                strains.set(k, s + (t - 400) / 40);
            }
            rings.replaceAll(r -> new Ring(r.glass(), r.radius(), 20));
        }

        int miss(List<Integer> aim) {
            int sum = fell() ? 999 : 0;
            for (int k = 0; k < 8; k++) {
                boolean mine = k < rings.size();
                boolean told = k < aim.size();
                sum += mine && told ? Math.abs(rings.get(k).radius() - aim.get(k)) : mine || told ? 99 : 0;
            }
            return sum;
        }
    }

    private interface Called {
        int place();

        void mark(int body);

        default int call() {
            mark(4);
            return place();
        }
    }

    private static class Wait implements Called {
        final Model home;
        final char letter;
        final int number;
        final int place;

        Wait(Model home, char letter, int number, int place) {
            this.home = home;
            this.letter = letter;
            this.number = number;
            this.place = place;
        }

        public int place() {
            return place;
        }

        public void mark(int body) {
            home.trace = home.trace * 31 + body;
        }

        final int waitBody() {
            mark(1);
            return number;
        }

        int tell() {
            return waitBody();
        }
    }

    private static class Turn extends Wait {
        Turn(Model home, char letter, int number, int place) {
            super(home, letter, number, place);
        }

        @Override
        int tell() {
            mark(2);
            return super.tell() + 100;
        }
    }

    private static final class Blow extends Turn {
        Blow(Model home, char letter, int number, int place) {
            super(home, letter, number, place);
        }

        @Override
        int tell() {
            mark(3);
            return super.tell() + waitBody();
        }

        @Override
        public int call() {
            mark(5);
            return 80;
        }
    }

    private static final class Mouth extends Turn {
        Mouth(Model home, char letter, int number, int place) {
            super(home, letter, number, place);
        }

        @Override
        int tell() {
            mark(6);
            return super.tell() + 1000;
        }
    }

    private final List<Gather> pieces = new ArrayList<>();
    private final List<List<Wait>> recipes = new ArrayList<>();
    private final List<Integer> aim = new ArrayList<>();
    private final List<int[]> jobs = new ArrayList<>();
    private final Object[] sheets = new Object[4];
    private int trace;
    private int fault;

    // ---- rows of sheets, by the machine's own faults

    private static final class Refused extends RuntimeException {
        private static final long serialVersionUID = 1;
        final int answer;

        Refused(int answer) {
            this.answer = answer;
        }
    }

    private interface Answer {
        long get();
    }

    private long guarded(Answer answer) {
        fault = 0;
        try {
            return answer.get();
        } catch (Refused e) {
            return e.answer;
        } catch (NullPointerException e) {
            fault = 1;
        } catch (ClassCastException e) {
            fault = 2;
        } catch (IndexOutOfBoundsException e) {
            fault = 3;
        } catch (NegativeArraySizeException e) {
            fault = 4;
        }
        return -10 - fault;
    }

    private static void refuse(boolean bad, int answer) {
        if (bad) {
            throw new Refused(answer);
        }
    }

    private static int length(Object row, int lane) {
        return lane == 0 ? ((byte[]) row).length : lane == 1 ? ((short[]) row).length : ((int[]) row).length;
    }

    private static int at(Object row, int lane, int i) {
        return lane == 0 ? ((byte[]) row)[i] : lane == 1 ? ((short[]) row)[i] : ((int[]) row)[i];
    }

    private int[] taken(int k, int lane, int i, int n, int each) {
        refuse(k < 0 || k > 3, UNKNOWN);
        refuse(lane < 0 || lane > 2, OUTSIDE);
        int length = length(sheets[k], lane);
        if (n < 0) {
            throw new NegativeArraySizeException();
        }
        if (i < 0 || i > length || (long) i + (long) n * each > length) {
            throw new IndexOutOfBoundsException();
        }
        int[] cells = new int[n * each];
        for (int j = 0; j < cells.length; j++) {
            cells[j] = at(sheets[k], lane, i + j);
        }
        return cells;
    }

    public int piece(int sheet, int lane, int i, int n) {
        return (int) guarded(() -> {
            int[] c = taken(sheet, lane, i, n, 3);
            refuse(n < 1 || n > 8, OUTSIDE);
            Gather g = new Gather();
            for (int k = 0; k < n; k++) {
                refuse(badRing(c[3 * k], c[3 * k + 1], c[3 * k + 2]), OUTSIDE);
                g.join(new Ring(c[3 * k], c[3 * k + 1], c[3 * k + 2]));
            }
            refuse(pieces.size() == 8, FULL);
            pieces.add(g);
            return pieces.size() - 1;
        });
    }

    private static boolean badRing(int g, int r, int h) {
        return g < 1 || g > 999 || r < 1 || r > 99 || r > g || h < 0 || h > 1500;
    }

    public int recipe(int sheet, int lane, int i, int n) {
        return (int) guarded(() -> {
            int[] c = taken(sheet, lane, i, n, 1);
            List<Wait> items = new ArrayList<>();
            int bad = parse(c, items);
            if (bad >= 0) {
                return -100 - bad;
            }
            refuse(recipes.size() == 6, FULL);
            recipes.add(items);
            return recipes.size() - 1;
        });
    }

    private int parse(int[] c, List<Wait> items) {
        StringBuilder text = new StringBuilder();
        for (int code : c) {
            text.append(code > 0 && code < 128 ? (char) code : '?');
        }
        int at = 0;
        while (true) {
            if (at == text.length() || "wtbmuoj".indexOf(text.charAt(at)) < 0) {
                return at;
            }
            char letter = text.charAt(at++);
            int first = at;
            boolean clock = "wtbm".indexOf(letter) >= 0;
            while (at < text.length() && Character.isDigit(text.charAt(at)) && at - first < (clock ? 2 : 1)) {
                at++;
            }
            if (first == at) {
                return at;
            }
            int number = Integer.parseInt(text.substring(first, at));
            if ((clock || letter == 'o') && number == 0 || letter == 'j' && number > 7) {
                return first;
            }
            items.add(made(letter, number, items.size()));
            if (at == text.length()) {
                return -1;
            }
            if (items.size() == 8 || text.charAt(at) != ';') {
                return at;
            }
            at++;
        }
    }

    private Wait made(char letter, int number, int place) {
        return switch (letter) {
            case 't', 'u' -> new Turn(this, letter, number, place);
            case 'b' -> new Blow(this, letter, number, place);
            case 'm', 'o' -> new Mouth(this, letter, number, place);
            default -> new Wait(this, letter, number, place);
        };
    }

    public int aim(int sheet, int lane, int i, int n) {
        return (int) guarded(() -> {
            int[] c = taken(sheet, lane, i, n, 1);
            refuse(n < 1 || n > 8, OUTSIDE);
            for (int r : c) {
                refuse(r < 1 || r > 99, OUTSIDE);
            }
            aim.clear();
            for (int r : c) {
                aim.add(r);
            }
            return n;
        });
    }

    public int sheet(int k, int lane, int n) {
        return (int) guarded(() -> {
            refuse(k < 0 || k > 3, UNKNOWN);
            refuse(lane < 0 || lane > 2 || n > 60, OUTSIDE);
            sheets[k] = lane == 0 ? new byte[n] : lane == 1 ? (Object) new short[n] : new int[n];
            return 1;
        });
    }

    public int lose(int k) {
        if (k < 0 || k > 3) {
            return UNKNOWN;
        }
        int had = sheets[k] == null ? 0 : 1;
        sheets[k] = null;
        return had;
    }

    public int put(int k, int i, int v) {
        return (int) guarded(() -> {
            refuse(k < 0 || k > 3, UNKNOWN);
            Object row = sheets[k];
            if (row instanceof byte[] b) {
                b[i] = (byte) v;
            } else if (row instanceof short[] s) {
                s[i] = (short) v;
            } else {
                ((int[]) row)[i] = v;
            }
            return 1;
        });
    }

    public long cell(int k, int i, int lane) {
        long got = guarded(() -> {
            refuse(k < 0 || k > 3, UNKNOWN);
            refuse(lane < 0 || lane > 2, OUTSIDE);
            return at(sheets[k], lane, i) + (1L << 40);
        });
        return got < 1L << 39 ? Long.MIN_VALUE : got - (1L << 40);
    }

    public int copy(int k, int i, int other, int j, int n) {
        return (int) guarded(() -> {
            refuse(k < 0 || k > 3 || other < 0 || other > 3, UNKNOWN);
            if (sheets[k] == null || sheets[other] == null) {
                throw new NullPointerException();
            }
            if (sheets[k].getClass() != sheets[other].getClass()) {
                throw new ClassCastException();
            }
            System.arraycopy(sheets[k], i, sheets[other], j, n);
            return n;
        });
    }

    // ---- pieces

    private boolean noPiece(int p) {
        return p < 0 || p >= pieces.size();
    }

    private boolean noRecipe(int q) {
        return q < 0 || q >= recipes.size();
    }

    public int ring(int p, int k, int what) {
        return noPiece(p) || k < 0 || k >= pieces.get(p).rings.size() ? UNKNOWN
            : what < 0 || what > 5 ? OUTSIDE : pieces.get(p).ring(k, what);
    }

    public int ofPiece(int p, int what) {
        return noPiece(p) ? UNKNOWN : what < 0 || what > 5 ? OUTSIDE : pieces.get(p).all(what);
    }

    public int tenth(int p, int kind, int n) {
        if (noPiece(p)) {
            return UNKNOWN;
        }
        if (kind < 0 || kind > 3 || n < 0 || n > 200) {
            return OUTSIDE;
        }
        if (pieces.get(p).fell()) {
            return STATE;
        }
        for (int k = 0; k < n && !pieces.get(p).fell(); k++) {
            pieces.get(p).go(kind);
        }
        return pieces.get(p).off;
    }

    // ---- recipes

    public int item(int q, int k) {
        if (noRecipe(q)) {
            return UNKNOWN;
        }
        List<Wait> items = recipes.get(q);
        if (k == -1) {
            return items.size();
        }
        return k < 0 || k >= items.size() ? UNKNOWN : 100 * "wtbmuoj".indexOf(items.get(k).letter) + items.get(k).number;
    }

    private int done(Gather g, int q, int late, int d) {
        int took = 0;
        for (Wait item : recipes.get(q)) {
            for (int t = 0; item.place == late && t < d && !g.fell(); t++, took++) {
                g.go(0);
            }
            int n = item.number;
            if (item.letter == 'j' && !g.fell() && n < g.rings.size()) {
                g.grow(n, -g.rings.get(n).soft());
            }
            int most = item.letter == 'j' ? 0 : "uo".indexOf(item.letter) < 0 ? n : 99;
            int kind = item instanceof Blow ? 2 : item instanceof Mouth ? 3 : item instanceof Turn ? 1 : 0;
            for (int t = 0; t < most && !g.fell(); t++, took++) {
                if (item.letter == 'u' && g.soft() <= n || item.letter == 'o' && g.soft() >= n) {
                    break;
                }
                g.go(kind);
            }
        }
        return took;
    }

    public int make(int p, int q) {
        return noPiece(p) || noRecipe(q) ? UNKNOWN : pieces.get(p).fell() ? STATE : done(pieces.get(p), q, -1, 0);
    }

    public int look(int p, int q, int k, int d, int r, int what) {
        if (noPiece(p) || noRecipe(q) || k < -1 || k >= recipes.get(q).size()) {
            return UNKNOWN;
        }
        if (k >= 0 && (d < 0 || d > 20)) {
            return OUTSIDE;
        }
        if (what < 10 && (r < 0 || r >= pieces.get(p).rings.size())) {
            return UNKNOWN;
        }
        if (what < 0 || what > 15 || what > 5 && what < 10) {
            return OUTSIDE;
        }
        if (pieces.get(p).fell()) {
            return STATE;
        }
        Gather g = pieces.get(p).like();
        done(g, q, k, d);
        return what < 10 ? g.ring(r, what) : g.all(what - 10);
    }

    // ---- ovens and bits

    public int oven(int p, int t, int n) {
        if (noPiece(p)) {
            return UNKNOWN;
        }
        if (t < 400 || t > 560 || n < 0 || n > 40) {
            return OUTSIDE;
        }
        if (pieces.get(p).soft() > 0 || pieces.get(p).fell()) {
            return STATE;
        }
        pieces.get(p).bake(t, n);
        return pieces.get(p).strain();
    }

    public int quickest(int p, int x, int what) {
        if (noPiece(p)) {
            return UNKNOWN;
        }
        if (x < 0 || x > 99 || what < 0 || what > 1) {
            return OUTSIDE;
        }
        if (pieces.get(p).soft() > 0 || pieces.get(p).fell()) {
            return STATE;
        }
        for (int hours = 0; hours <= 40; hours++) {
            for (int t = 400; t <= 560; t += 20) {
                Gather g = pieces.get(p).like();
                g.bake(t, hours);
                if (g.strain() <= x) {
                    return what == 0 ? hours : t;
                }
            }
        }
        return NONE;
    }

    private int barred(int p, int g, int r, int h, boolean bad) {
        return noPiece(p) ? UNKNOWN : badRing(g, r, h) || bad ? OUTSIDE : pieces.get(p).fell() ? STATE : 0;
    }

    private static Gather cooled(int g, int r, int h, int t) {
        Gather bit = new Gather();
        bit.join(new Ring(g, r, h));
        for (int k = 0; k < t; k++) {
            bit.tenth(false, false, false);
        }
        return bit;
    }

    private boolean held(Gather piece, int g, int r, int h, int t) {
        Gather like = piece.like();
        for (int k = 0; k < t; k++) {
            like.go(1);
        }
        Ring last = like.rings.get(like.rings.size() - 1);
        Ring bit = cooled(g, r, h, t).rings.get(0);
        return last.soft() >= 2 && bit.soft() >= 2 && Math.abs(last.heat() - bit.heat()) <= 200;
    }

    public int holds(int p, int g, int r, int h, int t) {
        int bar = barred(p, g, r, h, t < 0 || t > 100);
        return bar != 0 ? bar : held(pieces.get(p), g, r, h, t) ? 1 : 0;
    }

    public int span(int p, int g, int r, int h, int what) {
        int bar = barred(p, g, r, h, what < 0 || what > 2);
        if (bar != 0) {
            return bar;
        }
        List<Integer> good = new ArrayList<>();
        for (int t = 0; t <= 100; t++) {
            if (held(pieces.get(p), g, r, h, t)) {
                good.add(t);
            }
        }
        return what == 2 ? good.size() : good.isEmpty() ? NONE : good.get(what == 0 ? 0 : good.size() - 1);
    }

    public long odds(int p, int g, int r, int h, int t, int hand, int which) {
        if (barred(p, g, r, h, t < 0 || t > 97 || hand < 1 || hand > 9999 || which < 0 || which > 1) != 0) {
            return Long.MIN_VALUE;
        }
        String digits = new StringBuilder("000" + hand).reverse().substring(0, 4);
        int upper = 0;
        int lower = 0;
        for (int late = 0; late < 4; late++) {
            int weight = digits.charAt(late) - '0';
            lower += weight;
            upper += held(pieces.get(p), g, r, h, t + late) ? weight : 0;
        }
        int common = java.math.BigInteger.valueOf(upper).gcd(java.math.BigInteger.valueOf(lower)).intValue();
        return which == 0 ? upper / common : lower / common;
    }

    public int join(int p, int g, int r, int h, int t) {
        int bar = barred(p, g, r, h, t < 0 || t > 100);
        if (bar != 0) {
            return bar;
        }
        Gather piece = pieces.get(p);
        if (piece.rings.size() == 8) {
            return FULL;
        }
        boolean held = held(piece, g, r, h, t);
        for (int k = 0; k < t; k++) {
            piece.go(1);
        }
        if (held) {
            piece.join(cooled(g, r, h, t).rings.get(0));
        }
        return held ? 1 : 0;
    }

    // ---- aims

    public int miss(int p) {
        return noPiece(p) ? UNKNOWN : aim.isEmpty() ? STATE : pieces.get(p).miss(aim);
    }

    public int nearest(int p, int n, int k) {
        if (noPiece(p)) {
            return UNKNOWN;
        }
        if (n < 1 || n > 3) {
            return OUTSIDE;
        }
        if (k < -1 || k >= n) {
            return UNKNOWN;
        }
        if (aim.isEmpty() || recipes.isEmpty() || pieces.get(p).fell()) {
            return STATE;
        }
        int[] best = new int[4];
        best[0] = Integer.MAX_VALUE;
        rows(pieces.get(p), n, 0, new int[3], best);
        return best[k + 1];
    }

    private void rows(Gather g, int n, int at, int[] row, int[] best) {
        if (at == n) {
            if (g.miss(aim) < best[0]) {
                best[0] = g.miss(aim);
                System.arraycopy(row, 0, best, 1, 3);
            }
            return;
        }
        for (int q = 0; q < recipes.size(); q++) {
            Gather like = g.like();
            done(like, q, -1, 0);
            row[at] = q;
            rows(like, n, at + 1, row, best);
        }
    }

    public int spoils(int p, int q, int d, int what) {
        if (noPiece(p) || noRecipe(q)) {
            return UNKNOWN;
        }
        if (d < 0 || d > 20 || what < 0 || what > 1) {
            return OUTSIDE;
        }
        if (aim.isEmpty() || pieces.get(p).fell()) {
            return STATE;
        }
        int[] best = {0, -1};
        for (int k = 0; k < recipes.get(q).size(); k++) {
            Gather g = pieces.get(p).like();
            done(g, q, k, d);
            if (g.miss(aim) > best[1]) {
                best = new int[] {k, g.miss(aim)};
            }
        }
        return best[what];
    }

    // ---- mornings

    public int job(int mouth, int bench, int worth) {
        if (Math.min(mouth, Math.min(bench, worth)) < 0 || Math.max(mouth, Math.max(bench, worth)) > 99) {
            return OUTSIDE;
        }
        if (jobs.size() == 7) {
            return FULL;
        }
        jobs.add(new int[] {mouth, bench, worth});
        return jobs.size() - 1;
    }

    private int[] bestOrder(int set) {
        int[] best = {Integer.MAX_VALUE, NONE, NONE, NONE, NONE, NONE, NONE, NONE};
        orders(set, 0, new int[] {NONE, NONE, NONE, NONE, NONE, NONE, NONE}, new int[] {0, 0}, best);
        return best;
    }

    private void orders(int rest, int at, int[] row, int[] free, int[] best) {
        if (rest == 0 && free[1] < best[0]) {
            best[0] = free[1];
            System.arraycopy(row, 0, best, 1, 7);
        }
        for (int k = 0; k < jobs.size(); k++) {
            if ((rest & 1 << k) != 0) {
                row[at] = k;
                int out = free[0] + jobs.get(k)[0];
                int[] then = {out, Math.max(out, free[1]) + jobs.get(k)[1]};
                orders(rest & ~(1 << k), at + 1, row, then, best);
                row[at] = NONE;
            }
        }
    }

    public int order(int set, int k) {
        if (set < 0 || set >>> jobs.size() != 0) {
            return OUTSIDE;
        }
        return k < -1 || k > 6 ? UNKNOWN : bestOrder(set)[k + 1];
    }

    public int morning(int t, int what) {
        if (t < 0 || t > 999 || what < 0 || what > 1) {
            return OUTSIDE;
        }
        int[] best = {0, 0};
        for (int set = 0; set < 1 << jobs.size(); set++) {
            int worth = 0;
            for (int k = 0; k < jobs.size(); k++) {
                worth += (set & 1 << k) != 0 ? jobs.get(k)[2] : 0;
            }
            if (worth > best[1] && bestOrder(set)[0] <= t) {
                best = new int[] {set, worth};
            }
        }
        return best[what];
    }

    // ---- parts

    private Wait found(int q, int k) {
        return noRecipe(q) || k < 0 || k >= recipes.get(q).size() ? null : recipes.get(q).get(k);
    }

    public int tell(int q, int k) {
        Wait item = found(q, k);
        return item == null ? UNKNOWN : item.tell();
    }

    public int call(int q, int k) {
        Wait item = found(q, k);
        return item == null ? UNKNOWN : item.call();
    }

    public int as(int q, int k, int kind) {
        return (int) guarded(() -> {
            Wait item = found(q, k);
            refuse(item == null, UNKNOWN);
            refuse(kind < 0 || kind > 3, OUTSIDE);
            Class<?>[] kinds = {Wait.class, Turn.class, Blow.class, Mouth.class};
            kinds[kind].cast(item);
            return 1;
        });
    }

    public int trace() {
        return trace;
    }

    public int fault() {
        return fault;
    }

    public int many(int what) {
        int[] all = {pieces.size(), recipes.size(), jobs.size(), aim.size()};
        return what < 0 || what > 3 ? OUTSIDE : all[what];
    }
}
