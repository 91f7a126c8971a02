/** The boundary cases of promises 23 to 27: sheet, lose, put, cell, copy; and of SHEETS and LANES. */
public final class SheetsEdgesTest {
    private static final Edge edge = new Edge("SheetsEdgesTest");

    public static void main(String[] args) {
        sheetBounds();
        sheetAnew();
        sheetFirstOfSeveral();
        loseBounds();
        putBounds();
        putCutsToLane();
        cellBounds();
        cellLanes();
        copyBounds();
        copyCells();
        copyToTheSame();
        copyFirstOfSeveral();
        edge.due.end();
    }

    /** The cells of a sheet, and that there are no more. */
    private static void rowIs(SoftGlass x, String what, int k, int lane, int... cells) {
        for (int i = 0; i < cells.length; i++) {
            edge.is(what + ": cell " + i, x.cell(k, i, lane), cells[i]);
        }
        edge.is(what + ": no more cells", x.cell(k, cells.length, lane), SoftGlass.LOST);
    }

    // ---- promise 23

    private static void sheetBounds() {
        edge.promise(23);
        for (int k : new int[] {Edge.LEAST, -1, 4, Edge.MOST}) {
            edge.refused("sheet " + k, Edge.UNKNOWN, x -> x.sheet(k, 0, 3));
        }
        for (int lane : new int[] {Edge.LEAST, -1, 3, Edge.MOST}) {
            edge.refused("lane " + lane, Edge.OUTSIDE, x -> x.sheet(0, lane, 3));
        }
        for (int n : new int[] {61, Edge.MOST}) {
            edge.refused("n " + n, Edge.OUTSIDE, x -> x.sheet(0, 0, n));
        }
        for (int n : new int[] {-1, Edge.LEAST}) {
            edge.faulted("n " + n, Edge.SIZE, x -> x.sheet(0, 0, n));
            edge.faulted("n " + n + " where there is nothing", Edge.SIZE, x -> x.sheet(Edge.NOTHING, 0, n));
        }
        for (int k = 0; k < 4; k++) {
            int sheet = k;
            SoftGlass x = edge.takes("sheet " + k, 1, y -> y.sheet(sheet, 2, 2));
            rowIs(x, "sheet " + k, k, 2, 0, 0);
        }
        for (int lane = 0; lane < 3; lane++) {
            int told = lane;
            SoftGlass none = edge.takes("n 0 of lane " + lane, 1, y -> y.sheet(0, told, 0));
            rowIs(none, "n 0 of lane " + lane, 0, lane);
            edge.is("a row of no cells is a row", none.lose(0), 1);
            SoftGlass most = edge.takes("n 60 of lane " + lane, 1, y -> y.sheet(0, told, 60));
            rowIs(most, "n 60 of lane " + lane, 0, lane, new int[60]);
        }
    }

    private static void sheetAnew() {
        edge.promise(23, due -> due.row(0, 2, 7, 8, 9));
        rowIs(edge.takes("as long", 1, x -> x.sheet(0, 2, 3)), "0 at first", 0, 2, 0, 0, 0);
        rowIs(edge.takes("shorter", 1, x -> x.sheet(0, 2, 1)), "shorter", 0, 2, 0);
        SoftGlass other = edge.takes("of another lane", 1, x -> x.sheet(0, 0, 3));
        rowIs(other, "of another lane", 0, 0, 0, 0, 0);
        edge.is("no more of the one it was", other.cell(0, 0, 2), SoftGlass.LOST);
        edge.is("that is CAST", other.fault(), Edge.CAST);
        SoftGlass longer = edge.fresh();
        longer.sheet(0, 2, 1);
        longer.sheet(0, 2, 3);
        rowIs(longer, "longer again", 0, 2, 0, 0, 0);
    }

    private static void sheetFirstOfSeveral() {
        edge.promise(23);
        edge.refused("no sheet and a lane", Edge.UNKNOWN, x -> x.sheet(4, 3, 3));
        edge.refused("no sheet and n", Edge.UNKNOWN, x -> x.sheet(4, 0, 61));
        edge.refused("no sheet and SIZE", Edge.UNKNOWN, x -> x.sheet(4, 0, -1));
        edge.refused("a lane and SIZE", Edge.OUTSIDE, x -> x.sheet(0, 3, -1));
    }

    // ---- promise 24

    private static void loseBounds() {
        edge.promise(24);
        for (int k : new int[] {Edge.LEAST, -1, 4, Edge.MOST}) {
            edge.refused("sheet " + k, Edge.UNKNOWN, x -> x.lose(k));
        }
        edge.tells("it had nothing", 0, x -> x.lose(Edge.NOTHING));
        for (int k = 0; k < 3; k++) {
            int sheet = k;
            SoftGlass x = edge.takes("sheet " + k, 1, y -> y.lose(sheet));
            edge.is("has nothing", x.cell(k, 0, k), SoftGlass.LOST);
            edge.is("that is NULL", x.fault(), Edge.NULL);
            edge.is("once more", x.lose(k), 0);
            for (int other = 0; other < 3; other++) {
                edge.is("another sheet", x.cell(other, 0, other) == SoftGlass.LOST ? 1 : 0, other == k ? 1 : 0);
            }
        }
        edge.promise(24, due -> due.row(0, 0));
        edge.takes("a row of no cells", 1, x -> x.lose(0));
        edge.promise(24, due -> due.row(0, 2, 7, 8));
        SoftGlass x = edge.takes("a row", 1, y -> y.lose(0));
        x.sheet(0, 2, 2);
        rowIs(x, "nothing of the lost one comes again", 0, 2, 0, 0);
    }

    // ---- promise 25

    private static void putBounds() {
        edge.promise(25);
        for (int k : new int[] {Edge.LEAST, -1, 4, Edge.MOST}) {
            edge.refused("sheet " + k, Edge.UNKNOWN, x -> x.put(k, 0, 5));
            edge.refused("sheet " + k + " and i", Edge.UNKNOWN, x -> x.put(k, -1, 5));
        }
        edge.faulted("nothing", Edge.NULL, x -> x.put(Edge.NOTHING, 0, 5));
        edge.faulted("NULL and INDEX", Edge.NULL, x -> x.put(Edge.NOTHING, -1, 5));
        for (int i : new int[] {Edge.LEAST, -1, 4, 60, Edge.MOST}) {
            edge.faulted("i " + i + " of four", Edge.INDEX, x -> x.put(2, i, 5));
        }
        rowIs(edge.takes("the first", 1, x -> x.put(2, 0, 5)), "the first", 2, 2, 5, 20, 1100, 7);
        rowIs(edge.takes("the last", 1, x -> x.put(2, 3, 5)), "the last", 2, 2, 300, 20, 1100, 5);
        edge.promise(25, due -> due.x.sheet(0, 0, 60));
        edge.takes("the last of 60", 1, x -> x.put(0, 59, 5));
        edge.faulted("behind the last of 60", Edge.INDEX, x -> x.put(0, 60, 5));
        edge.promise(25, due -> due.x.sheet(0, 0, 0));
        edge.faulted("a row of no cells", Edge.INDEX, x -> x.put(0, 0, 5));
    }

    private static void putCutsToLane() {
        int[][] cuts = {{0, 127, 127}, {0, 128, -128}, {0, 255, -1}, {0, 256, 0}, {0, -128, -128}, {0, -129, 127},
            {0, Edge.MOST, -1}, {0, Edge.LEAST, 0}, {1, 32767, 32767}, {1, 32768, -32768}, {1, 65535, -1}, {1, 65536, 0},
            {1, -32768, -32768}, {1, -32769, 32767}, {1, Edge.MOST, -1}, {1, Edge.LEAST, 0}, {2, 65536, 65536},
            {2, Edge.MOST, Edge.MOST}, {2, Edge.LEAST, Edge.LEAST}, {2, -1, -1}};
        for (int[] c : cuts) {
            edge.promise(25, due -> due.x.sheet(0, c[0], 1));
            SoftGlass x = edge.takes("put " + c[1] + " to lane " + c[0], 1, y -> y.put(0, 0, c[1]));
            edge.is(c[1] + " cut to lane " + c[0], x.cell(0, 0, c[0]), c[2]);
        }
    }

    // ---- promise 26

    private static void cellBounds() {
        edge.promise(26);
        for (int k : new int[] {Edge.LEAST, -1, 4, Edge.MOST}) {
            edge.refused("sheet " + k, Edge.UNKNOWN, x -> x.cell(k, 0, 2));
            edge.refused("sheet " + k + " and a lane", Edge.UNKNOWN, x -> x.cell(k, 0, 3));
        }
        for (int lane : new int[] {Edge.LEAST, -1, 3, Edge.MOST}) {
            edge.refused("lane " + lane, Edge.OUTSIDE, x -> x.cell(2, 0, lane));
            edge.refused("lane " + lane + " and NULL", Edge.OUTSIDE, x -> x.cell(Edge.NOTHING, 0, lane));
            edge.refused("lane " + lane + " and INDEX", Edge.OUTSIDE, x -> x.cell(2, -1, lane));
        }
        for (int i : new int[] {Edge.LEAST, -1, 4, 60, Edge.MOST}) {
            edge.faulted("i " + i + " of four", Edge.INDEX, x -> x.cell(2, i, 2));
            edge.faulted("CAST and i " + i, Edge.CAST, x -> x.cell(2, i, 1));
            edge.faulted("NULL and i " + i, Edge.NULL, x -> x.cell(Edge.NOTHING, i, 1));
        }
        edge.tells("the first", 300, x -> x.cell(2, 0, 2));
        edge.tells("the last", 7, x -> x.cell(2, 3, 2));
        edge.promise(26, due -> due.x.sheet(0, 0, 60));
        edge.tells("the last of 60", 0, x -> x.cell(0, 59, 0));
        edge.faulted("behind the last of 60", Edge.INDEX, x -> x.cell(0, 60, 0));
        edge.promise(26, due -> due.x.sheet(0, 0, 0));
        edge.faulted("a row of no cells", Edge.INDEX, x -> x.cell(0, 0, 0));
        edge.promise(26, due -> due.row(0, 2, Edge.LEAST, Edge.MOST));
        edge.tells("the least int", Edge.LEAST, x -> x.cell(0, 0, 2));
        edge.tells("the greatest int", Edge.MOST, x -> x.cell(0, 1, 2));
    }

    private static void cellLanes() {
        for (int lane = 0; lane < 3; lane++) {
            for (int as = 0; as < 3; as++) {
                int had = lane;
                int told = as;
                edge.promise(26, due -> due.row(0, had, 5));
                if (lane == as) {
                    edge.tells("lane " + lane, 5, x -> x.cell(0, 0, told));
                } else {
                    edge.faulted("lane " + lane + " as " + as, Edge.CAST, x -> x.cell(0, 0, told));
                }
            }
            int nothing = lane;
            edge.faulted("nothing is no CAST, lane " + lane, Edge.NULL, x -> x.cell(Edge.NOTHING, 0, nothing));
        }
    }

    // ---- promise 27

    /** Bytes of 5 and of 3 cells, ints, and nothing. */
    private static void rows(Due due) {
        due.row(0, 0, 1, 2, 3, 4, 5);
        due.row(1, 0, 7, 8, 9);
        due.row(2, 2, 6, 6);
    }

    private static void copyBounds() {
        edge.promise(27, SheetsEdgesTest::rows);
        for (int k : new int[] {Edge.LEAST, -1, 4, Edge.MOST}) {
            edge.refused("the first " + k, Edge.UNKNOWN, x -> x.copy(k, 0, 1, 0, 1));
            edge.refused("the other " + k, Edge.UNKNOWN, x -> x.copy(0, 0, k, 0, 1));
        }
        edge.faulted("the first has nothing", Edge.NULL, x -> x.copy(Edge.NOTHING, 0, 1, 0, 1));
        edge.faulted("the other has nothing", Edge.NULL, x -> x.copy(0, 0, Edge.NOTHING, 0, 1));
        edge.faulted("both have nothing", Edge.NULL, x -> x.copy(Edge.NOTHING, 0, Edge.NOTHING, 0, 1));
        edge.faulted("bytes to ints", Edge.CAST, x -> x.copy(0, 0, 2, 0, 1));
        edge.faulted("ints to bytes", Edge.CAST, x -> x.copy(2, 0, 0, 0, 1));
        edge.faulted("bytes to ints, none", Edge.CAST, x -> x.copy(0, 0, 2, 0, 0));
        int[][] beyond = {{-1, 0, 1}, {Edge.LEAST, 0, 1}, {0, -1, 1}, {0, Edge.LEAST, 1}, {0, 0, -1}, {0, 0, Edge.LEAST},
            {5, 0, 1}, {4, 0, 2}, {3, 0, 3}, {0, 3, 1}, {0, 2, 2}, {0, 1, 3}, {0, 0, 4}, {6, 0, 0}, {0, 4, 0}, {-1, 0, 0},
            {0, -1, 0}, {Edge.MOST, 0, 0}, {0, Edge.MOST, 0}, {0, 0, Edge.MOST}, {1, 1, Edge.MOST}, {Edge.MOST, Edge.MOST, Edge.MOST},
            {5, 3, -1}, {Edge.MOST, 0, 1}};
        for (int[] b : beyond) {
            String what = "i " + b[0] + ", j " + b[1] + ", n " + b[2];
            edge.faulted(what, Edge.INDEX, x -> x.copy(0, b[0], 1, b[1], b[2]));
        }
    }

    private static void copyCells() {
        edge.promise(27, SheetsEdgesTest::rows);
        SoftGlass last = edge.takes("the last cells", 3, x -> x.copy(0, 2, 1, 0, 3));
        rowIs(last, "the other", 1, 0, 3, 4, 5);
        rowIs(last, "the first", 0, 0, 1, 2, 3, 4, 5);
        rowIs(edge.takes("one to the last", 1, x -> x.copy(0, 4, 1, 2, 1)), "one to the last", 1, 0, 7, 8, 5);
        edge.tells("none", 0, x -> x.copy(0, 0, 1, 0, 0));
        edge.tells("none, from both ends on", 0, x -> x.copy(0, 5, 1, 3, 0));
        edge.promise(27, due -> {
            due.x.sheet(0, 1, 0);
            due.x.sheet(1, 1, 60);
            due.x.sheet(2, 1, 60);
            due.x.put(1, 59, 700);
        });
        edge.tells("none of a row of no cells", 0, x -> x.copy(0, 0, 1, 60, 0));
        edge.faulted("one of a row of no cells", Edge.INDEX, x -> x.copy(0, 0, 1, 0, 1));
        SoftGlass all = edge.takes("all 60", 60, x -> x.copy(1, 0, 2, 0, 60));
        edge.is("the last of 60", all.cell(2, 59, 1), 700);
        edge.faulted("61", Edge.INDEX, x -> x.copy(1, 0, 2, 0, 61));
    }

    private static void copyToTheSame() {
        edge.promise(27, SheetsEdgesTest::rows);
        rowIs(edge.takes("up by one", 4, x -> x.copy(0, 0, 0, 1, 4)), "up, as they were", 0, 0, 1, 1, 2, 3, 4);
        rowIs(edge.takes("down by one", 4, x -> x.copy(0, 1, 0, 0, 4)), "down, as they were", 0, 0, 2, 3, 4, 5, 5);
        edge.tells("onto themselves", 5, x -> x.copy(0, 0, 0, 0, 5));
        edge.faulted("beyond the end", Edge.INDEX, x -> x.copy(0, 0, 0, 1, 5));
    }

    private static void copyFirstOfSeveral() {
        edge.promise(27, SheetsEdgesTest::rows);
        edge.refused("no other sheet and NULL", Edge.UNKNOWN, x -> x.copy(Edge.NOTHING, 0, 4, 0, 1));
        edge.refused("no sheet and INDEX", Edge.UNKNOWN, x -> x.copy(4, -1, 0, 0, 1));
        edge.faulted("NULL and INDEX", Edge.NULL, x -> x.copy(0, -1, Edge.NOTHING, 0, 1));
        edge.faulted("CAST and INDEX", Edge.CAST, x -> x.copy(0, -1, 2, 0, 1));
        edge.faulted("CAST and n below 0", Edge.CAST, x -> x.copy(0, 0, 2, 0, -1));
    }
}
