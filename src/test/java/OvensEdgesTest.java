/** The boundary cases of promises 10 and 11: oven, quickest. */
public final class OvensEdgesTest {
    private static final Edge edge = new Edge("OvensEdgesTest");

    public static void main(String[] args) {
        ovenBounds();
        ovenState();
        ovenHours();
        ovenEnd();
        ovenLongest();
        quickestBounds();
        quickestState();
        quickestOfSeveral();
        quickestNone();
        edge.due.end();
    }

    // ---- promise 10

    private static void ovenBounds() {
        edge.promise(10);
        for (int p : new int[] {Edge.LEAST, -1, 4, 8, Edge.MOST}) {
            edge.refused("piece " + p, Edge.UNKNOWN, x -> x.oven(p, 480, 1));
        }
        for (int t : new int[] {Edge.LEAST, -1, 0, 399, 561, Edge.MOST}) {
            edge.refused("t " + t, Edge.OUTSIDE, x -> x.oven(Edge.STIFF, t, 1));
        }
        for (int n : new int[] {Edge.LEAST, -1, 41, Edge.MOST}) {
            edge.refused("n " + n, Edge.OUTSIDE, x -> x.oven(Edge.STIFF, 480, n));
        }
        // the strain is 16: 16 * 10 / 200 is 0; 16 * 170 / 200 is 13, and 4 at the end
        edge.takes("t 400", 16, x -> x.oven(Edge.STIFF, 400, 1));
        edge.takes("t 560", 3 + 4, x -> x.oven(Edge.STIFF, 560, 1));
        edge.takes("n 0", 16 + 2, x -> x.oven(Edge.STIFF, 480, 0));
        // 16, 9, 5, 3, 2, 2, ..
        edge.takes("n 40", 2 + 2, x -> x.oven(Edge.STIFF, 480, 40));
        edge.refused("no piece and t", Edge.UNKNOWN, x -> x.oven(4, 399, 1));
        edge.refused("t, fallen", Edge.OUTSIDE, x -> x.oven(Edge.FALLEN, 399, 1));
        edge.refused("n, soft", Edge.OUTSIDE, x -> x.oven(Edge.SOFT, 400, 41));
    }

    private static void ovenState() {
        edge.promise(10);
        edge.refused("soft", Edge.STATE, x -> x.oven(Edge.SOFT, 480, 1));
        edge.refused("fallen", Edge.STATE, x -> x.oven(Edge.FALLEN, 480, 1));
        baked("heat 599", 599, 599, 599, true);
        baked("the first of heat 600", 600, 599, 599, false);
        baked("the second of heat 600", 599, 600, 599, false);
        baked("the last of heat 600", 599, 599, 600, false);
    }

    private static void baked(String what, int first, int second, int last, boolean stiff) {
        edge.promise(10, due -> due.piece(9, 3, first, 9, 3, second, 9, 3, last));
        if (stiff) {
            edge.takes(what, 0, x -> x.oven(0, 400, 0));
        } else {
            edge.refused(what, Edge.STATE, x -> x.oven(0, 400, 0));
        }
    }

    private static void ovenHours() {
        edge.promise(10);
        edge.takes("16 * 12 / 200 is 0", 16, x -> x.oven(Edge.STIFF, 402, 1));
        edge.takes("16 * 13 / 200 is 1", 15, x -> x.oven(Edge.STIFF, 403, 1));
        // 15 * 13 / 200 is 0
        edge.takes("each hour of what is there then", 15, x -> x.oven(Edge.STIFF, 403, 2));
        edge.takes("16, 9 and 2 at the end", 11, x -> x.oven(Edge.STIFF, 480, 1));
        edge.takes("16, 9, 5 and 2 once at the end", 7, x -> x.oven(Edge.STIFF, 480, 2));
        edge.promise(10, due -> {
            due.piece(999, 1, 100, 999, 1, 600, 999, 1, 599);
            due.x.tenth(0, 1, 1);
        });
        // 35 * 90 / 200 is 15, 6 * 90 / 200 is 2
        SoftGlass x = edge.takes("the greatest then", 35 - 15 + 2, y -> y.oven(0, 480, 1));
        edge.is("each strain: the first", x.ring(0, 0, 5), 22);
        edge.is("each strain: the second", x.ring(0, 1, 5), 6 - 2 + 2);
        edge.is("the last ring has none", x.ring(0, 2, 5), 0);
    }

    private static void ovenEnd() {
        edge.promise(10);
        int[][] ends = {{400, 0}, {439, 0}, {440, 1}, {479, 1}, {480, 2}, {519, 2}, {520, 3}, {559, 3}, {560, 4}};
        for (int[] e : ends) {
            edge.takes("what t " + e[0] + " gives", 16 + e[1], x -> x.oven(Edge.STIFF, e[0], 0));
        }
        for (int n : new int[] {0, 1, 40}) {
            SoftGlass x = edge.fresh();
            x.oven(Edge.STIFF, 400, n);
            edge.is("heat of the first behind hours " + n, x.ring(Edge.STIFF, 0, 2), 20);
            edge.is("heat of the last behind hours " + n, x.ring(Edge.STIFF, 1, 2), 20);
        }
        edge.promise(10, due -> {
            due.piece(9, 3, 0);
            due.piece(Edge.rings(8, 9, 3, 0));
        });
        SoftGlass one = edge.takes("one ring has no strain to grow", 0, y -> y.oven(0, 560, 40));
        edge.is("nor tells one", one.ring(0, 0, 5), 0);
        edge.is("heat 0 becomes 20", one.ring(0, 0, 2), 20);
        SoftGlass eight = edge.takes("eight rings", 4, y -> y.oven(1, 560, 0));
        for (int k = 0; k < 8; k++) {
            edge.is("strain " + k + " of eight rings", eight.ring(1, k, 5), k < 7 ? 4 : 0);
            edge.is("heat " + k + " of eight rings", eight.ring(1, k, 2), 20);
        }
    }

    /** By 100 ovens of no hours the strain is 400; t 400 takes a twentieth an hour and gives nothing. */
    private static void ovenLongest() {
        edge.promise(10, due -> due.piece(9, 3, 20, 9, 3, 20));
        SoftGlass x = edge.fresh();
        for (int k = 1; k <= 100; k++) {
            edge.is("strain", x.oven(0, 560, 0), 4 * k);
        }
        edge.is("40 hours, the last of which takes 3", x.oven(0, 400, 40), 59);
    }

    // ---- promise 11

    private static void quickestBounds() {
        edge.promise(11);
        for (int p : new int[] {Edge.LEAST, -1, 4, 8, Edge.MOST}) {
            edge.refused("piece " + p, Edge.UNKNOWN, x -> x.quickest(p, 16, 0));
        }
        for (int b : new int[] {Edge.LEAST, -1, 100, Edge.MOST}) {
            edge.refused("x " + b, Edge.OUTSIDE, x -> x.quickest(Edge.STIFF, b, 0));
        }
        for (int what : new int[] {Edge.LEAST, -1, 2, Edge.MOST}) {
            edge.refused("what " + what, Edge.OUTSIDE, x -> x.quickest(Edge.STIFF, 16, what));
        }
        edge.tells("x 0", Edge.NONE, x -> x.quickest(Edge.STIFF, 0, 0));
        edge.tells("x 99: hours", 0, x -> x.quickest(Edge.STIFF, 99, 0));
        edge.tells("x 99: t", 400, x -> x.quickest(Edge.STIFF, 99, 1));
        edge.refused("no piece and x", Edge.UNKNOWN, x -> x.quickest(4, 100, 0));
        edge.refused("x, fallen", Edge.OUTSIDE, x -> x.quickest(Edge.FALLEN, 100, 0));
        edge.refused("what, soft", Edge.OUTSIDE, x -> x.quickest(Edge.SOFT, 16, 2));
    }

    private static void quickestState() {
        edge.promise(11);
        edge.refused("soft", Edge.STATE, x -> x.quickest(Edge.SOFT, 99, 0));
        edge.refused("fallen", Edge.STATE, x -> x.quickest(Edge.FALLEN, 99, 0));
        edge.promise(11, due -> {
            due.piece(9, 3, 599, 9, 3, 599);
            due.piece(9, 3, 599, 9, 3, 600);
            due.piece(9, 3, 300);
        });
        edge.tells("heat 599", 0, x -> x.quickest(0, 0, 0));
        edge.refused("heat 600", Edge.STATE, x -> x.quickest(1, 99, 0));
        edge.tells("one ring has no strain: hours", 0, x -> x.quickest(2, 0, 0));
        edge.tells("one ring has no strain: t", 400, x -> x.quickest(2, 0, 1));
    }

    /**
     * Strain 16 becomes in one hour, with what t gives, 400: 16, 420: 14, 440: 13, 460: 12, 480: 11, 500: 10, 520: 9,
     * 540: 7, 560: 7.
     */
    private static void quickestOfSeveral() {
        edge.promise(11);
        int[][] bounds = {{16, 0, 400}, {15, 1, 420}, {14, 1, 420}, {13, 1, 440}, {12, 1, 460}, {11, 1, 480}, {10, 1, 500},
            {9, 1, 520}, {8, 1, 540}, {7, 1, 540}};
        for (int[] b : bounds) {
            edge.tells("hours for " + b[0], b[1], x -> x.quickest(Edge.STIFF, b[0], 0));
            edge.tells("t for " + b[0], b[2], x -> x.quickest(Edge.STIFF, b[0], 1));
        }
        // in two 480: 5 and 2, 500: 4 and 2, 520: 3 and 3, 540: 1 and 3, 560: 1 and 4
        edge.tells("hours for 6", 2, x -> x.quickest(Edge.STIFF, 6, 0));
        edge.tells("t for 6: of several the least", 500, x -> x.quickest(Edge.STIFF, 6, 1));
        edge.tells("hours for 4", 2, x -> x.quickest(Edge.STIFF, 4, 0));
        edge.tells("t for 4", 540, x -> x.quickest(Edge.STIFF, 4, 1));
        edge.promise(11, due -> {
            due.piece(999, 1, 100, 999, 1, 600, 999, 1, 599);
            due.x.tenth(0, 1, 1);
        });
        edge.tells("no STRAIN is more: the first is", 1, x -> x.quickest(0, 34, 0));
        edge.tells("no STRAIN is more: 35 and 6", 0, x -> x.quickest(0, 35, 0));
        // in one hour 540: 9 and 3, 560: 6 and 4
        edge.tells("t for 12", 540, x -> x.quickest(0, 12, 1));
        edge.tells("t for 11: the last there is", 560, x -> x.quickest(0, 11, 1));
        edge.tells("hours for 10", 1, x -> x.quickest(0, 10, 0));
        edge.tells("hours for 9", 2, x -> x.quickest(0, 9, 0));
    }

    /** The ovens go no lower than 400: 19, 420: 6, 440: 3 + 1, 460: 2 + 1, 480: 2 + 2, 500: 1 + 2, 560: 1 + 4. */
    private static void quickestNone() {
        edge.promise(11);
        for (int what = 0; what < 2; what++) {
            int w = what;
            for (int bound = 0; bound < 3; bound++) {
                int b = bound;
                edge.tells("none comes to " + bound, Edge.NONE, x -> x.quickest(Edge.STIFF, b, w));
            }
        }
        // 460 by 16, 11, 8, 6, 4, 3, 2; 500 by 16, 8, 4, 2, 1
        edge.tells("hours for 3", 4, x -> x.quickest(Edge.STIFF, 3, 0));
        edge.tells("t for 3", 500, x -> x.quickest(Edge.STIFF, 3, 1));
    }
}
