/** The boundary cases of promises 16 to 19: aim, miss, nearest, spoils. */
public final class AimsEdgesTest {
    private static final Edge edge = new Edge("AimsEdgesTest");

    public static void main(String[] args) {
        aimSheetsAndLanes();
        aimCells();
        aimNumbers();
        aimAnew();
        aimFirstOfSeveral();
        missBounds();
        missSums();
        nearestBounds();
        nearestState();
        nearestRows();
        nearestOfSix();
        nearestFalls();
        spoilsBounds();
        spoilsState();
        spoilsLate();
        spoilsOfSeveral();
        edge.due.end();
    }

    // ---- promise 16

    private static void aimSheetsAndLanes() {
        edge.promise(16);
        for (int k : new int[] {Edge.LEAST, -1, 4, Edge.MOST}) {
            edge.refused("sheet " + k, Edge.UNKNOWN, x -> x.aim(k, 0, 0, 1));
        }
        for (int lane : new int[] {Edge.LEAST, -1, 3, Edge.MOST}) {
            edge.refused("lane " + lane, Edge.OUTSIDE, x -> x.aim(0, lane, 0, 1));
        }
        edge.faulted("bytes as shorts", Edge.CAST, x -> x.aim(0, 1, 0, 1));
        edge.faulted("bytes as ints", Edge.CAST, x -> x.aim(0, 2, 0, 1));
        for (int lane = 0; lane < 3; lane++) {
            int told = lane;
            edge.promise(16);
            edge.faulted("nothing is no CAST, lane " + lane, Edge.NULL, x -> x.aim(Edge.NOTHING, told, 0, 1));
            edge.promise(16, due -> due.row(2, told, 7));
            SoftGlass x = edge.takes("lane " + lane, 1, y -> y.aim(2, told, 0, 1));
            edge.is("rings of it", x.many(3), 1);
        }
    }

    private static void aimCells() {
        edge.promise(16, due -> {
            due.piece(9, 1, 7);
            due.row(1, 1, 0, 5, 9);
        });
        edge.faulted("n -1", Edge.SIZE, x -> x.aim(1, 1, 0, -1));
        edge.faulted("n least", Edge.SIZE, x -> x.aim(1, 1, 0, Edge.LEAST));
        edge.faulted("i -1", Edge.INDEX, x -> x.aim(1, 1, -1, 1));
        edge.faulted("i least", Edge.INDEX, x -> x.aim(1, 1, Edge.LEAST, 1));
        SoftGlass x = edge.takes("the last cell", 1, y -> y.aim(1, 1, 2, 1));
        edge.is("of 9", x.miss(0), 8);
        edge.faulted("behind the last cell", Edge.INDEX, y -> y.aim(1, 1, 3, 1));
        edge.faulted("one cell too few", Edge.INDEX, y -> y.aim(1, 1, 2, 2));
        edge.faulted("i most", Edge.INDEX, y -> y.aim(1, 1, Edge.MOST, 1));
        edge.faulted("n most", Edge.INDEX, y -> y.aim(1, 1, 1, Edge.MOST));
        edge.refused("none, from the end on", Edge.OUTSIDE, y -> y.aim(1, 1, 3, 0));
        edge.faulted("none, from behind the end on", Edge.INDEX, y -> y.aim(1, 1, 4, 0));
        edge.faulted("none, from -1 on", Edge.INDEX, y -> y.aim(1, 1, -1, 0));
        edge.promise(16, due -> due.row(1, 1));
        edge.faulted("a row of no cells", Edge.INDEX, y -> y.aim(1, 1, 0, 1));
        edge.refused("none of a row of no cells", Edge.OUTSIDE, y -> y.aim(1, 1, 0, 0));
    }

    private static void aimNumbers() {
        edge.promise(16, due -> due.row(0, 0, 1, 2, 3, 4, 5, 6, 7, 8, 9));
        edge.refused("n 0", Edge.OUTSIDE, x -> x.aim(0, 0, 0, 0));
        edge.takes("n 1", 1, x -> x.aim(0, 0, 0, 1));
        SoftGlass eight = edge.takes("n 8", 8, x -> x.aim(0, 0, 1, 8));
        edge.is("rings of n 8", eight.many(3), 8);
        edge.refused("n 9", Edge.OUTSIDE, x -> x.aim(0, 0, 0, 9));
        for (int radius : new int[] {Edge.LEAST, -1, 0, 100, Edge.MOST}) {
            edge.promise(16, due -> due.row(2, 2, 5, radius));
            edge.refused("radius " + radius, Edge.OUTSIDE, x -> x.aim(2, 2, 1, 1));
            edge.refused("radius " + radius + " is the last", Edge.OUTSIDE, x -> x.aim(2, 2, 0, 2));
        }
        for (int radius : new int[] {1, 99}) {
            edge.promise(16, due -> {
                due.piece(99, 1, 7);
                due.row(2, 2, radius);
            });
            SoftGlass x = edge.takes("radius " + radius, 1, y -> y.aim(2, 2, 0, 1));
            edge.is("miss of radius " + radius, x.miss(0), radius - 1);
        }
    }

    /** The workshop has an aim of 25 and 12; its stiff piece is of radii 10 and 10. */
    private static void aimAnew() {
        edge.promise(16);
        edge.is("the aim as it was", edge.fresh().miss(Edge.STIFF), 15 + 2);
        SoftGlass x = edge.takes("a shorter one", 1, y -> y.aim(0, 0, 1, 1));
        edge.is("is the aim", x.many(3), 1);
        edge.is("of 12", x.miss(Edge.STIFF), 2 + 99);
        edge.refused("radius 300 leaves it", Edge.OUTSIDE, y -> y.aim(2, 2, 0, 1));
        edge.refused("radius 20 and 1100 leave it", Edge.OUTSIDE, y -> y.aim(2, 2, 1, 2));
        edge.faulted("a fault leaves it", Edge.INDEX, y -> y.aim(2, 2, 3, 2));
    }

    private static void aimFirstOfSeveral() {
        edge.promise(16);
        edge.refused("no sheet and a lane", Edge.UNKNOWN, x -> x.aim(4, 3, -1, -1));
        edge.refused("a lane and CAST", Edge.OUTSIDE, x -> x.aim(0, 3, -1, -1));
        edge.refused("a lane and NULL", Edge.OUTSIDE, x -> x.aim(Edge.NOTHING, 3, -1, -1));
        edge.faulted("CAST and SIZE", Edge.CAST, x -> x.aim(0, 1, -1, -1));
        edge.faulted("NULL and SIZE", Edge.NULL, x -> x.aim(Edge.NOTHING, 1, -1, -1));
        edge.faulted("SIZE and INDEX", Edge.SIZE, x -> x.aim(0, 0, -1, -1));
        edge.faulted("INDEX and n 9", Edge.INDEX, x -> x.aim(0, 0, 0, 9));
        edge.faulted("INDEX and a radius", Edge.INDEX, x -> x.aim(2, 2, 0, 5));
    }

    // ---- promise 17

    private static void missBounds() {
        edge.promise(17);
        for (int p : new int[] {Edge.LEAST, -1, 4, 8, Edge.MOST}) {
            edge.refused("piece " + p, Edge.UNKNOWN, x -> x.miss(p));
        }
        edge.tells("piece 3", 15 + 2 + 6 * 99, x -> x.miss(Edge.EIGHT));
        edge.promise(17, due -> due.piece(9, 3, 7));
        edge.refused("no aim", Edge.STATE, x -> x.miss(0));
        edge.refused("no piece and no aim", Edge.UNKNOWN, x -> x.miss(1));
    }

    private static void missSums() {
        edge.promise(17, due -> {
            due.piece(9, 9, 7);
            due.piece(Edge.rings(8, 9, 3, 7));
            due.piece(200, 1, 1100, 100, 1, 1500);
            due.x.tenth(2, 0, 200);
            due.aim(9);
        });
        edge.tells("none", 0, x -> x.miss(0));
        edge.tells("seven rings more", 6 + 7 * 99, x -> x.miss(1));
        edge.tells("fallen", 8 + 99 + 999, x -> x.miss(2));
        SoftGlass x = edge.fresh();
        edge.due.aim(10, 1, 1, 1, 1, 1, 1, 99);
        edge.is("seven rings less", x.miss(0), 1 + 7 * 99);
        edge.is("eight of each", x.miss(1), 7 + 6 * 2 + 96);
        edge.is("fallen, six rings less", x.miss(2), 9 + 0 + 6 * 99 + 999);
        // turned once, three such rings hang 6 a tenth six times, then 5: 41
        edge.promise(17, due -> {
            due.piece(Edge.rings(3, 500, 5, 1200));
            due.x.tenth(0, 1, 1);
            due.x.tenth(0, 0, 6);
            due.aim(5, 5, 5);
        });
        SoftGlass y = edge.takes("OFF 36", 0, z -> z.miss(0));
        y.tenth(0, 0, 1);
        edge.is("OFF 41", y.miss(0), 999);
        edge.promise(17, due -> {
            due.piece(Edge.rings(8, 999, 1, 1500));
            due.x.tenth(0, 0, 4);
            due.x.tenth(0, 1, 1);
            due.x.tenth(0, 0, 1);
            due.aim(1, 1, 1, 1, 1, 1, 1, 1);
        });
        edge.tells("OFF 40", 0, z -> z.miss(0));
    }

    // ---- promise 18

    private static void nearestBounds() {
        edge.promise(18);
        for (int p : new int[] {Edge.LEAST, -1, 4, 8, Edge.MOST}) {
            edge.refused("piece " + p, Edge.UNKNOWN, x -> x.nearest(p, 1, 0));
        }
        for (int n : new int[] {Edge.LEAST, -1, 0, 4, Edge.MOST}) {
            edge.refused("n " + n, Edge.OUTSIDE, x -> x.nearest(Edge.SOFT, n, -1));
            edge.refused("n " + n + ", no piece", Edge.UNKNOWN, x -> x.nearest(4, n, -1));
            edge.refused("n " + n + " and k", Edge.OUTSIDE, x -> x.nearest(Edge.SOFT, n, 5));
            edge.refused("n " + n + ", fallen", Edge.OUTSIDE, x -> x.nearest(Edge.FALLEN, n, -1));
        }
        for (int n = 1; n <= 3; n++) {
            int rows = n;
            for (int k : new int[] {Edge.LEAST, -2, n, 4, Edge.MOST}) {
                edge.refused("k " + k + " of " + n, Edge.UNKNOWN, x -> x.nearest(Edge.SOFT, rows, k));
                edge.refused("k " + k + " of " + n + ", fallen", Edge.UNKNOWN, x -> x.nearest(Edge.FALLEN, rows, k));
            }
        }
    }

    private static void nearestState() {
        edge.promise(18);
        edge.refused("fallen", Edge.STATE, x -> x.nearest(Edge.FALLEN, 1, 0));
        edge.promise(18, due -> {
            due.piece(9, 3, 7);
            due.recipe("w1");
        });
        edge.refused("no aim", Edge.STATE, x -> x.nearest(0, 1, 0));
        edge.refused("k and no aim", Edge.UNKNOWN, x -> x.nearest(0, 1, 1));
        edge.promise(18, due -> {
            due.piece(9, 3, 7);
            due.aim(9);
        });
        edge.refused("no recipe", Edge.STATE, x -> x.nearest(0, 1, 0));
        edge.refused("n and no recipe", Edge.OUTSIDE, x -> x.nearest(0, 0, 0));
        edge.promise(18, due -> {
            due.piece(9, 3, 7);
            due.aim(9);
            due.recipe("w1");
        });
        for (int n = 1; n <= 3; n++) {
            int rows = n;
            edge.tells("one recipe, n " + n, 6, x -> x.nearest(0, rows, -1));
            edge.tells("its row, n " + n, 0, x -> x.nearest(0, rows, rows - 1));
        }
    }

    /** Of soft 5, jacks take 5 (recipe 0) and 10 (recipe 1) of radius 30, without a tenth. */
    private static void nearestRows() {
        rows(30, new int[][] {{5, 0}, {10, 0, 0}, {15, 0, 0, 0}});
        rows(20, new int[][] {{0, 1}, {0, 0, 0}, {5, 0, 0, 0}});
        rows(15, new int[][] {{5, 1}, {0, 0, 1}, {0, 0, 0, 0}});
        rows(10, new int[][] {{10, 1}, {0, 1, 1}, {0, 0, 0, 1}});
        rows(5, new int[][] {{15, 1}, {5, 1, 1}, {0, 0, 1, 1}});
        rows(1, new int[][] {{19, 1}, {9, 1, 1}, {0, 1, 1, 1}});
        // 20 by recipe 1 and 25 by recipe 0 miss 22 and 23 by 2 and 3
        rows(22, new int[][] {{2, 1}, {2, 0, 0}, {7, 0, 0, 0}});
        rows(23, new int[][] {{2, 0}, {3, 0, 0}, {8, 0, 0, 0}});
    }

    /** What is due for a told radius: for each n the miss and the row. */
    private static void rows(int radius, int[][] due) {
        edge.promise(18, d -> {
            d.piece(100, 30, 1000);
            d.recipe("j0");
            d.recipe("j0;j0");
            d.aim(radius);
        });
        for (int n = 1; n <= 3; n++) {
            for (int k = -1; k < n; k++) {
                int rows = n;
                int place = k;
                edge.tells("radius " + radius + ", n " + n + ", k " + k, due[n - 1][k + 1], x -> x.nearest(0, rows, place));
            }
        }
    }

    private static void nearestOfSix() {
        for (int radius = 15; radius <= 25; radius += 5) {
            int r = radius;
            edge.promise(18, due -> {
                due.piece(100, 30, 1000);
                for (int q = 0; q < 5; q++) {
                    due.recipe("j1");
                }
                due.recipe("j0");
                due.aim(r);
            });
            int jacks = (30 - radius) / 5;
            for (int n = jacks; n <= 3; n++) {
                int rows = n;
                edge.tells("radius " + radius + ", n " + n, 0, x -> x.nearest(0, rows, -1));
                for (int k = 0; k < n; k++) {
                    int place = k;
                    int due = k < n - jacks ? 0 : 5;
                    edge.tells("radius " + radius + ", n " + n + ", k " + k, due, x -> x.nearest(0, rows, place));
                }
            }
        }
    }

    /** Two such rings fall in the sixth tenth in which they hang. */
    private static void nearestFalls() {
        edge.promise(18, due -> {
            due.piece(200, 1, 1100, 100, 1, 1500);
            due.recipe("w3");
            due.recipe("t1");
            due.aim(1, 1);
        });
        edge.tells("three tenths are no fall", 0, x -> x.nearest(0, 1, -1));
        edge.tells("nor is the row 0, 1", 0, x -> x.nearest(0, 2, -1));
        edge.tells("0, 0 is: of the others the first begins with 0", 0, x -> x.nearest(0, 2, 0));
        edge.tells("and goes on with 1", 1, x -> x.nearest(0, 2, 1));
        edge.promise(18, due -> {
            due.piece(200, 1, 1100, 100, 1, 1500);
            due.recipe("w9");
            due.aim(5, 1);
        });
        edge.tells("every row falls", 4 + 999, x -> x.nearest(0, 3, -1));
        edge.tells("it has not fallen", 0, x -> x.ofPiece(0, 2));
    }

    // ---- promise 19

    private static void spoilsBounds() {
        edge.promise(19);
        for (int n : new int[] {Edge.LEAST, -1, 4, 8, Edge.MOST}) {
            edge.refused("piece " + n, Edge.UNKNOWN, x -> x.spoils(n, Edge.SHORT, 0, 0));
        }
        for (int n : new int[] {Edge.LEAST, -1, 2, 6, Edge.MOST}) {
            edge.refused("recipe " + n, Edge.UNKNOWN, x -> x.spoils(Edge.SOFT, n, 0, 0));
            edge.refused("recipe " + n + " and d", Edge.UNKNOWN, x -> x.spoils(Edge.SOFT, n, 21, 0));
            edge.refused("recipe " + n + ", fallen", Edge.UNKNOWN, x -> x.spoils(Edge.FALLEN, n, 0, 0));
        }
        for (int d : new int[] {Edge.LEAST, -1, 21, Edge.MOST}) {
            edge.refused("d " + d, Edge.OUTSIDE, x -> x.spoils(Edge.SOFT, Edge.SHORT, d, 0));
            edge.refused("d " + d + ", no piece", Edge.UNKNOWN, x -> x.spoils(4, Edge.SHORT, d, 0));
            edge.refused("d " + d + ", fallen", Edge.OUTSIDE, x -> x.spoils(Edge.FALLEN, Edge.SHORT, d, 0));
        }
        for (int what : new int[] {Edge.LEAST, -1, 2, Edge.MOST}) {
            edge.refused("what " + what, Edge.OUTSIDE, x -> x.spoils(Edge.SOFT, Edge.SHORT, 0, what));
            edge.refused("what " + what + ", fallen", Edge.OUTSIDE, x -> x.spoils(Edge.FALLEN, Edge.SHORT, 0, what));
        }
        edge.tells("d 0", 17, x -> x.spoils(Edge.STIFF, Edge.SHORT, 0, 1));
        edge.tells("d 20", 17, x -> x.spoils(Edge.STIFF, Edge.SHORT, 20, 1));
    }

    private static void spoilsState() {
        edge.promise(19);
        edge.refused("fallen", Edge.STATE, x -> x.spoils(Edge.FALLEN, Edge.SHORT, 0, 0));
        edge.promise(19, due -> {
            due.piece(9, 3, 7);
            due.recipe("w1");
        });
        edge.refused("no aim", Edge.STATE, x -> x.spoils(0, 0, 0, 0));
        edge.refused("d and no aim", Edge.OUTSIDE, x -> x.spoils(0, 0, 21, 0));
        edge.refused("what and no aim", Edge.OUTSIDE, x -> x.spoils(0, 0, 0, 2));
    }

    /** Hanging it is of soft 6, 4, 3, 2, 1, 0 behind 0 .. 5 tenths; the jack takes that of radius 20. */
    private static void spoilsLate() {
        int[][] misses = {{0, 0}, {1, 2}, {2, 3}, {3, 4}, {4, 5}, {5, 6}, {20, 6}};
        edge.promise(19, due -> {
            due.piece(300, 20, 1100);
            due.recipe("j0");
            due.aim(14);
        });
        for (int[] m : misses) {
            edge.tells("late by " + m[0], m[1], x -> x.spoils(0, 0, m[0], 1));
            edge.tells("the only item, late by " + m[0], 0, x -> x.spoils(0, 0, m[0], 0));
        }
    }

    private static void spoilsOfSeveral() {
        // late by 1 at the first both jacks take 4: 12; at the second the first takes 6, and of thick 21 it is of 966: 10
        worst("the first is the worst", "j0;j0", 8, 1, 0, 4);
        worst("the last is the worst", "j0;j0", 20, 1, 1, 10);
        worst("alike, the first", "j0;j0", 11, 1, 0, 1);
        worst("late by 0, the first", "j0;j0", 8, 0, 0, 0);
        worst("none does anything, the first", "j1;j1;j1", 20, 20, 0, 0);
        worst("of the alike ones the second", "j0;j1;j1;j1;j1;j1;j1;j0", 20, 1, 1, 10);
        // jacks take 6 ahead of the late one and 4 from it on
        edge.promise(19, due -> {
            due.piece(999, 99, 1100);
            due.recipe("j0;j0;j0;j0;j0;j0;j0;j0");
            due.aim(99);
        });
        edge.tells("the last of eight", 7, x -> x.spoils(0, 0, 1, 0));
        edge.tells("the last of eight: its miss", 7 * 6 + 4, x -> x.spoils(0, 0, 1, 1));
        edge.promise(19, due -> {
            due.piece(200, 9, 1100, 100, 9, 1500);
            due.recipe("t40;j1;b1;w1");
            due.recipe("w1;t40;j1;b1");
            due.aim(9, 9);
        });
        edge.tells("late by 20 at the first it falls", 0, x -> x.spoils(0, 0, 20, 0));
        edge.tells("and misses by 999", 999, x -> x.spoils(0, 0, 20, 1));
        edge.tells("late behind w1 it falls too: the first", 0, x -> x.spoils(0, 1, 20, 0));
        edge.tells("it has not fallen", 0, x -> x.ofPiece(0, 2));
    }

    private static void worst(String what, String text, int radius, int d, int item, int miss) {
        edge.promise(19, due -> {
            due.piece(300, 20, 1100);
            due.recipe(text);
            due.aim(radius);
        });
        edge.tells(what, item, x -> x.spoils(0, 0, d, 0));
        edge.tells(what + ": its miss", miss, x -> x.spoils(0, 0, d, 1));
    }
}
