/** Promises 6 to 9: recipe, item, make, look. */
public final class RecipesTest {
    private static final Due due = new Due("RecipesTest");
    private static final int[] HOT = {999, 1, 1500, 999, 1, 1500, 999, 1, 1500, 999, 1, 1500,
        999, 1, 1500, 999, 1, 1500, 999, 1, 1500, 999, 1, 1500};

    public static void main(String[] args) {
        texts();
        firstFaults();
        recipeRefusals();
        recipeFull();
        making();
        byLook();
        falling();
        lookingLikeMaking();
        late();
        makeAndLookRefusals();
        due.end();
    }

    private static void texts() {
        due.fresh();
        due.is("every letter", due.recipe("w1;t99;b05;m10;u0;o9;j7"), 0);
        int[] items = {1, 199, 205, 310, 400, 509, 607};
        due.is("how many", due.x.item(0, -1), items.length);
        for (int k = 0; k < items.length; k++) {
            due.is("item " + k, due.x.item(0, k), items[k]);
        }
        due.is("item 7", due.x.item(0, 7), SoftGlass.UNKNOWN);
        due.is("item -2", due.x.item(0, -2), SoftGlass.UNKNOWN);
        due.is("item of recipe 1", due.x.item(1, -1), SoftGlass.UNKNOWN);
        due.is("item of recipe -1", due.x.item(-1, 0), SoftGlass.UNKNOWN);
        due.is("eight items", due.recipe("w1;w2;w3;w4;w5;w6;w7;w88"), 1);
        due.is("how many", due.x.item(1, -1), 8);
        due.is("the last", due.x.item(1, 7), 88);
        due.row(3, 2, 0, 'j', '0', ';', 'u', '9', 0);
        due.is("from 1 on", due.x.recipe(3, 2, 1, 5), 2);
        due.is("j0", due.x.item(2, 0), 600);
        due.is("u9", due.x.item(2, 1), 409);
        due.is("many", due.x.many(1), 3);
    }

    private static void firstFaults() {
        String[] texts = {"", "x", "w", "w;", "wx", "w0", "w00", "w0;t1", "w0x", "w100", "t123", "u", "u10", "ux", "o0", "o;",
            "o12", "j8", "j9", "j", "j70", "w1;", "w1;;", "w1x", "w1t1", ";w1", "w1;x", "w12;b0", "w12;b", "W1", "w 1", "w-1",
            "t1;t1;t1;t1;t1;t1;t1;t1;", "t1;t1;t1;t1;t1;t1;t1;t1;t1", "t1;t1;t1;t1;t1;t1;t1;t1x", "w05;u5;o0"};
        int[] places = {0, 0, 1, 1, 1, 1, 1, 1, 1, 3, 3, 1, 2, 1, 1, 1,
            2, 1, 1, 1, 2, 3, 3, 2, 2, 0, 3, 5, 5, 0, 1, 1,
            23, 23, 23, 8};
        for (int k = 0; k < texts.length; k++) {
            if (k % 10 == 0) {
                due.fresh();
            }
            due.is("first fault of '" + texts[k] + "'", due.recipe(texts[k]), -100 - places[k]);
            due.is("it is no FAULT", due.x.fault(), 0);
            due.is("no recipe", due.x.many(1), 0);
        }
        due.fresh();
        due.row(2, 2, 'w' + 256, '1');
        due.is("a code that is no byte", due.x.recipe(2, 2, 0, 2), -100);
        due.row(2, 2, 'w', '1', -1, 0);
        due.is("a code below 0", due.x.recipe(2, 2, 0, 4), -102);
        due.is("a shorter text of it", due.x.recipe(2, 2, 0, 2), 0);
    }

    private static void recipeRefusals() {
        due.fresh();
        due.is("sheet 4", due.x.recipe(4, 3, 0, 1), SoftGlass.UNKNOWN);
        due.is("lane 3", due.x.recipe(0, 3, 0, 1), SoftGlass.OUTSIDE);
        due.is("nothing is no CAST", due.x.recipe(0, 1, -1, -1), Due.NULL);
        due.row(0, 0, 'w', '1');
        due.is("CAST", due.x.recipe(0, 1, -1, -1), Due.CAST);
        due.is("SIZE", due.x.recipe(0, 0, -1, -1), Due.SIZE);
        due.is("INDEX", due.x.recipe(0, 0, 1, 2), Due.INDEX);
        due.is("fault", due.x.fault(), 3);
        due.is("INDEX of none", due.x.recipe(0, 0, 3, 0), Due.INDEX);
        due.is("no code from the end on", due.x.recipe(0, 0, 2, 0), -100);
        due.is("fault", due.x.fault(), 0);
        due.is("n is great", due.x.recipe(0, 0, 1, Integer.MAX_VALUE), Due.INDEX);
        due.is("many", due.x.many(1), 0);
    }

    private static void recipeFull() {
        due.fresh();
        for (int k = 0; k < 6; k++) {
            due.is("recipe " + k, due.recipe("w" + (k + 1)), k);
        }
        due.is("a first fault comes ahead of FULL", due.recipe("w0"), -101);
        due.is("a seventh", due.recipe("t9;t9"), SoftGlass.FULL);
        due.is("many", due.x.many(1), 6);
        due.is("the last is as it was", due.x.item(5, -1), 1);
        due.is("its item", due.x.item(5, 0), 6);
        due.is("there is no seventh", due.x.item(6, -1), SoftGlass.UNKNOWN);
    }

    private static void making() {
        due.fresh();
        due.piece(300, 20, 1100);
        due.piece(300, 20, 1100);
        due.recipe("w2;t1;b1;m3");
        due.is("make", due.x.make(0, 0), 7);
        due.x.tenth(1, 0, 2);
        due.x.tenth(1, 1, 1);
        due.x.tenth(1, 2, 1);
        due.x.tenth(1, 3, 3);
        for (int what = 0; what < 6; what++) {
            due.is("ring as by tenths " + what, due.x.ring(0, 0, what), due.x.ring(1, 0, what));
            due.is("all as by tenths " + what, due.x.ofPiece(0, what), due.x.ofPiece(1, what));
        }
        due.piece(100, 30, 1000, 100, 3, 800, 100, 9, 599);
        due.recipe("j0;j1;j2;j3;j7;j0");
        due.is("jacks take no tenth", due.x.make(2, 1), 0);
        due.is("twice less by 5", due.x.ring(2, 0, 1), 20);
        due.is("1 at least", due.x.ring(2, 1, 1), 1);
        due.is("stiff", due.x.ring(2, 2, 1), 9);
        due.is("heat as it was", due.x.ring(2, 0, 2), 1000);
    }

    private static void byLook() {
        due.fresh();
        due.piece(300, 20, 1100);
        due.recipe("u3");
        due.recipe("o5");
        due.recipe("o9");
        due.recipe("u9");
        // 957, 838 and soft 6, 4, 3
        due.is("u3", due.x.make(0, 0), 2);
        due.is("heat", due.x.ring(0, 0, 2), 838);
        due.is("u3 again", due.x.make(0, 0), 0);
        due.is("u9", due.x.make(0, 3), 0);
        // thick 15: 838 + 362 / 17 - 538 / 8 goes down: soft 5 is never come to
        due.is("o5: 99 at most", due.x.make(0, 1), 99);
        due.is("o9: 99 at most", due.x.make(0, 2), 99);
        due.piece(100, 50, 700);
        // thick 2: 700 + 500 / 4 - 400 / 8 = 775; 775 + 106 - 59 = 822; then 822 + 94 - 65 = 851, soft 3
        due.recipe("o3");
        due.is("o3", due.x.make(1, 4), 2);
        due.is("822 is soft 3", due.x.ring(1, 0, 2), 822);
        due.recipe("u0");
        due.is("u0 until stiff", due.x.make(1, 5) > 0 ? 1 : 0, 1);
        due.is("soft 0", due.x.ofPiece(1, 3), 0);
    }

    private static void falling() {
        due.fresh();
        due.piece(HOT);
        due.recipe("w10;b9;j7;m3");
        due.is("it falls behind five tenths", due.x.make(0, 0), 5);
        due.is("OFF", due.x.ofPiece(0, 1), 45);
        due.is("nothing more: no blow, no jack", due.x.ring(0, 7, 1), 1);
        due.is("fallen", due.x.make(0, 0), SoftGlass.STATE);
        due.piece(HOT);
        due.is("looked at", due.x.look(1, 0, -1, 0, 0, 11), 45);
        due.is("fallen then", due.x.look(1, 0, -1, 0, 0, 12), 1);
        due.is("not fallen now", due.x.ofPiece(1, 2), 0);
        due.recipe("j7;w4;t1;w1;w1;j7");
        due.is("jack, hang, turn, hang, fall", due.x.make(1, 1), 7);
        due.is("OFF", due.x.ofPiece(1, 1), 49);
        due.piece(999, 9, 1500, 999, 9, 1500, 999, 9, 1500, 999, 9, 1500, 999, 9, 1500, 999, 9, 1500);
        due.recipe("j5;w9;j5");
        due.x.make(2, 2);
        due.is("the jack ahead of the fall: 9 less 10 is 1", due.x.ring(2, 5, 1), 1);
        due.piece(999, 30, 1500, 999, 30, 1500, 999, 30, 1500, 999, 30, 1500, 999, 30, 1500, 999, 30, 1500);
        due.recipe("w9;j5");
        due.x.make(3, 3);
        due.is("fallen", due.x.ofPiece(3, 2), 1);
        due.is("no jack behind the fall", due.x.ring(3, 5, 1), 30);
    }

    private static void lookingLikeMaking() {
        due.fresh();
        due.piece(200, 10, 1200, 100, 20, 1100, 300, 15, 900);
        due.piece(200, 10, 1200, 100, 20, 1100, 300, 15, 900);
        due.recipe("b3;m2;w2;j1;u1;t20");
        due.x.make(1, 0);
        for (int r = 0; r < 3; r++) {
            for (int what = 0; what < 6; what++) {
                due.is("look ring " + r + " " + what, due.x.look(0, 0, -1, 99, r, what), due.x.ring(1, r, what));
            }
        }
        for (int what = 0; what < 6; what++) {
            due.is("look all " + what, due.x.look(0, 0, -1, -1, 77, 10 + what), due.x.ofPiece(1, what));
        }
        due.is("it was only looked at", due.x.ring(0, 0, 2), 1200);
    }

    private static void late() {
        due.fresh();
        due.piece(300, 20, 1100);
        due.recipe("t1;b2");
        due.recipe("t1;w3;b2");
        due.recipe("w3;t1;b2");
        due.recipe("t1;b2");
        for (int what = 0; what < 6; what++) {
            due.is("late at 1 " + what, due.x.look(0, 0, 1, 3, 0, what), due.x.look(0, 1, -1, 0, 0, what));
            due.is("late at 0 " + what, due.x.look(0, 0, 0, 3, 0, 10 + what), due.x.look(0, 2, -1, 0, 0, 10 + what));
            due.is("late by 0 " + what, due.x.look(0, 0, 1, 0, 0, what), due.x.look(0, 3, -1, 0, 0, what));
        }
        due.piece(HOT);
        due.is("late by 20 it falls", due.x.look(1, 0, 0, 20, 0, 11), 45);
    }

    private static void makeAndLookRefusals() {
        due.fresh();
        due.is("make: no piece", due.x.make(0, 0), SoftGlass.UNKNOWN);
        due.piece(HOT);
        due.is("make: no recipe", due.x.make(0, 0), SoftGlass.UNKNOWN);
        due.recipe("t1;t2");
        due.is("make: piece -1", due.x.make(-1, 0), SoftGlass.UNKNOWN);
        due.is("make: recipe -1", due.x.make(0, -1), SoftGlass.UNKNOWN);
        due.is("piece", due.x.look(1, 0, -1, 0, 0, 0), SoftGlass.UNKNOWN);
        due.is("recipe", due.x.look(0, 1, -1, 0, 0, 0), SoftGlass.UNKNOWN);
        due.is("k comes ahead of d", due.x.look(0, 0, 2, 21, 0, 0), SoftGlass.UNKNOWN);
        due.is("k -2", due.x.look(0, 0, -2, 0, 0, 0), SoftGlass.UNKNOWN);
        due.is("d comes ahead of r", due.x.look(0, 0, 1, 21, 8, 0), SoftGlass.OUTSIDE);
        due.is("d -1", due.x.look(0, 0, 0, -1, 0, 0), SoftGlass.OUTSIDE);
        due.is("r comes ahead of what", due.x.look(0, 0, 1, 20, 8, 6), SoftGlass.UNKNOWN);
        due.is("r -1", due.x.look(0, 0, 1, 20, -1, -5), SoftGlass.UNKNOWN);
        due.is("what 6", due.x.look(0, 0, 1, 20, 7, 6), SoftGlass.OUTSIDE);
        due.is("what 9", due.x.look(0, 0, 1, 20, 7, 9), SoftGlass.OUTSIDE);
        due.is("what -1", due.x.look(0, 0, 1, 20, 7, -1), SoftGlass.OUTSIDE);
        due.is("what 16, r is not looked at", due.x.look(0, 0, 1, 20, 9, 16), SoftGlass.OUTSIDE);
        due.is("what least", due.x.look(0, 0, -1, 0, 0, Integer.MIN_VALUE), SoftGlass.OUTSIDE);
        due.is("what 15", due.x.look(0, 0, 1, 20, 9, 15), 8 * 999);
        due.x.tenth(0, 0, 5);
        due.is("fallen", due.x.look(0, 0, 1, 20, 7, 0), SoftGlass.STATE);
        due.is("what comes ahead of fallen", due.x.look(0, 0, 1, 20, 7, 6), SoftGlass.OUTSIDE);
        due.is("make of the fallen", due.x.make(0, 0), SoftGlass.STATE);
    }
}
