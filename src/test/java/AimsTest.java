/** Promises 16 to 19: aim, miss, nearest, spoils. */
public final class AimsTest {
    private static final Due due = new Due("AimsTest");
    private static final int[] HOT = {999, 9, 1500, 999, 9, 1500, 999, 9, 1500, 999, 9, 1500, 999, 9, 1500};

    public static void main(String[] args) {
        aiming();
        aimRefusals();
        missing();
        nearestRows();
        nearestByLooking();
        nearestRefusals();
        spoiling();
        spoilsRefusals();
        due.end();
    }

    private static void aiming() {
        due.fresh();
        due.is("aim", due.aim(1, 99), 2);
        due.is("rings of it", due.x.many(3), 2);
        due.is("eight", due.aim(1, 2, 3, 4, 5, 6, 7, 8), 8);
        due.is("rings of it", due.x.many(3), 8);
        due.row(2, 2, 0, 5, 0);
        due.is("from 1 on", due.x.aim(2, 2, 1, 1), 1);
        due.is("rings of it", due.x.many(3), 1);
    }

    private static void aimRefusals() {
        due.fresh();
        due.is("sheet 4", due.x.aim(4, 3, 0, 1), SoftGlass.UNKNOWN);
        due.is("lane 3", due.x.aim(0, 3, 0, 1), SoftGlass.OUTSIDE);
        due.is("nothing is no CAST", due.x.aim(0, 1, -1, -1), Due.NULL);
        due.row(0, 0, 5, 6);
        due.is("CAST", due.x.aim(0, 1, -1, -1), Due.CAST);
        due.is("SIZE", due.x.aim(0, 0, -1, -1), Due.SIZE);
        due.is("INDEX", due.x.aim(0, 0, 1, 2), Due.INDEX);
        due.is("INDEX of none", due.x.aim(0, 0, 3, 0), Due.INDEX);
        due.is("fault", due.x.fault(), 3);
        due.is("none from the end on", due.x.aim(0, 0, 2, 0), SoftGlass.OUTSIDE);
        due.is("fault", due.x.fault(), 0);
        due.is("two", due.x.aim(0, 0, 0, 2), 2);
        due.is("radius 0", due.aim(5, 0), SoftGlass.OUTSIDE);
        due.is("radius 100", due.aim(100), SoftGlass.OUTSIDE);
        due.is("nine", due.aim(1, 1, 1, 1, 1, 1, 1, 1, 1), SoftGlass.OUTSIDE);
        due.is("the aim is as it was", due.x.many(3), 2);
        due.piece(9, 6, 0, 9, 6, 0);
        due.is("its radii too", due.x.miss(0), 1);
    }

    private static void missing() {
        due.fresh();
        due.is("no piece", due.x.miss(0), SoftGlass.UNKNOWN);
        due.piece(100, 20, 500, 100, 10, 500);
        due.is("no aim", due.x.miss(0), SoftGlass.STATE);
        due.is("no piece comes ahead of no aim", due.x.miss(1), SoftGlass.UNKNOWN);
        due.aim(25, 7);
        due.is("5 and 3", due.x.miss(0), 8);
        due.aim(20, 10, 1, 1);
        due.is("two rings too few", due.x.miss(0), 198);
        due.aim(21);
        due.is("one ring too many", due.x.miss(0), 100);
        due.piece(HOT);
        due.x.tenth(1, 0, 5);
        due.is("fallen", due.x.ofPiece(1, 2), 1);
        due.is("999 more", due.x.miss(1), 12 + 4 * 99 + 999);
    }

    private static void nearestRows() {
        due.fresh();
        due.piece(300, 20, 1100, 200, 10, 1000);
        due.aim(25, 12);
        due.recipe("b3");
        due.recipe("t9;b2");
        due.recipe("j0;w1");
        int[][] rows = {{6, 0}, {6, 0, 1}, {6, 0, 1, 0}};
        for (int n = 1; n <= 3; n++) {
            for (int k = -1; k < n; k++) {
                due.is("nearest of " + n + ", " + k, due.x.nearest(0, n, k), rows[n - 1][k + 1]);
            }
        }
        due.is("only looked at", due.x.ring(0, 0, 2), 1100);
    }

    /** The row that is told is made on a like piece: its miss must be the one told; and no row is nearer. */
    private static void nearestByLooking() {
        due.fresh();
        int[] rings = {300, 20, 1300, 200, 10, 1200, 400, 30, 1000};
        due.piece(rings);
        due.piece(rings);
        due.aim(18, 31, 24);
        String[] texts = {"w5", "b2", "m3;j0", "j2;b1", "u4;j1", "w9;w9;w9"};
        for (int q = 0; q < texts.length; q++) {
            due.recipe(texts[q]);
        }
        due.is("least of three", due.x.nearest(0, 3, -1) <= due.x.nearest(0, 2, -1) + 20 ? 1 : 0, 1);
        for (int k = 0; k < 3; k++) {
            due.x.make(1, due.x.nearest(0, 3, k));
        }
        due.is("that row makes it", due.x.miss(1), due.x.nearest(0, 3, -1));
    }

    private static void nearestRefusals() {
        due.fresh();
        due.is("no piece", due.x.nearest(0, 0, 9), SoftGlass.UNKNOWN);
        due.piece(HOT);
        due.is("n 0 comes ahead of k", due.x.nearest(0, 0, 9), SoftGlass.OUTSIDE);
        due.is("n 4", due.x.nearest(0, 4, 0), SoftGlass.OUTSIDE);
        due.is("k comes ahead of no aim", due.x.nearest(0, 1, 1), SoftGlass.UNKNOWN);
        due.is("k -2", due.x.nearest(0, 1, -2), SoftGlass.UNKNOWN);
        due.is("k 3 of 3", due.x.nearest(0, 3, 3), SoftGlass.UNKNOWN);
        due.is("no aim, no recipe", due.x.nearest(0, 1, 0), SoftGlass.STATE);
        due.aim(9);
        due.is("no recipe", due.x.nearest(0, 1, 0), SoftGlass.STATE);
        due.recipe("w9");
        due.is("every row lets it fall", due.x.nearest(0, 2, -1), 4 * 99 + 999);
        due.is("the row", due.x.nearest(0, 2, 1), 0);
        due.x.tenth(0, 0, 9);
        due.is("fallen", due.x.nearest(0, 1, 0), SoftGlass.STATE);
        due.fresh();
        due.piece(HOT);
        due.recipe("w9");
        due.is("no aim", due.x.nearest(0, 1, 0), SoftGlass.STATE);
    }

    private static void spoiling() {
        due.fresh();
        due.piece(300, 20, 1100, 200, 10, 1000);
        due.aim(25, 12);
        due.recipe("b3");
        due.recipe("j0;w1");
        due.is("late by 0: the first", due.x.spoils(0, 0, 0, 0), 0);
        due.is("its miss", due.x.spoils(0, 0, 0, 1), 6);
        due.is("late by 6", due.x.spoils(0, 0, 6, 1), 7);
        due.is("late behind the jack", due.x.spoils(0, 1, 6, 0), 1);
        due.is("its miss: 20 less 6 is 14", due.x.spoils(0, 1, 6, 1), 13);
        due.is("only looked at", due.x.ring(0, 0, 2), 1100);
        due.piece(HOT);
        due.recipe("b1;b1;b1");
        due.aim(9, 9, 9, 9, 9);
        due.is("late by 20 it falls, at whichever item", due.x.spoils(1, 2, 20, 1) > 999 ? 1 : 0, 1);
        due.is("the latest one: two blows done by then", due.x.spoils(1, 2, 20, 0), 2);
        for (int q = 0; q < 3; q++) {
            int worst = due.x.spoils(1, q, 3, 0);
            due.is("an item", worst >= 0 && worst < due.x.item(q, -1) ? 1 : 0, 1);
        }
    }

    private static void spoilsRefusals() {
        due.fresh();
        due.is("no piece", due.x.spoils(0, 0, 21, 2), SoftGlass.UNKNOWN);
        due.piece(HOT);
        due.is("no recipe", due.x.spoils(0, 0, 21, 2), SoftGlass.UNKNOWN);
        due.recipe("w1");
        due.is("d 21", due.x.spoils(0, 0, 21, 0), SoftGlass.OUTSIDE);
        due.is("d -1", due.x.spoils(0, 0, -1, 0), SoftGlass.OUTSIDE);
        due.is("what 2", due.x.spoils(0, 0, 0, 2), SoftGlass.OUTSIDE);
        due.is("what -1", due.x.spoils(0, 0, 0, -1), SoftGlass.OUTSIDE);
        due.is("no aim", due.x.spoils(0, 0, 0, 0), SoftGlass.STATE);
        due.aim(5);
        due.is("it goes", due.x.spoils(0, 0, 20, 0), 0);
        due.x.tenth(0, 0, 9);
        due.is("fallen", due.x.spoils(0, 0, 0, 0), SoftGlass.STATE);
        due.is("OUTSIDE comes ahead of fallen", due.x.spoils(0, 0, 21, 0), SoftGlass.OUTSIDE);
    }
}
