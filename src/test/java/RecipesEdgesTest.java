/** The boundary cases of promises 6 to 9: recipe, item, make, look; and of ACTS, RECIPES, DONE and LATE. */
public final class RecipesEdgesTest {
    private static final Edge edge = new Edge("RecipesEdgesTest");

    public static void main(String[] args) {
        recipeSheetsAndLanes();
        recipeCells();
        recipeNumbers();
        recipeFirstFaults();
        recipeItems();
        recipeCodes();
        recipeFull();
        recipeFirstOfSeveral();
        itemBounds();
        makeBounds();
        makeByClock();
        makeByLook();
        makeJacks();
        makeFalls();
        lookBounds();
        lookFirstOfSeveral();
        lookLate();
        edge.due.end();
    }

    private static int[] codes(String text) {
        int[] codes = new int[text.length()];
        for (int i = 0; i < codes.length; i++) {
            codes[i] = text.charAt(i);
        }
        return codes;
    }

    // ---- promise 6

    private static void recipeSheetsAndLanes() {
        edge.promise(6);
        for (int k : new int[] {Edge.LEAST, -1, 4, Edge.MOST}) {
            edge.refused("sheet " + k, Edge.UNKNOWN, x -> x.recipe(k, 1, 0, 2));
        }
        for (int lane : new int[] {Edge.LEAST, -1, 3, Edge.MOST}) {
            edge.refused("lane " + lane, Edge.OUTSIDE, x -> x.recipe(1, lane, 0, 2));
        }
        edge.faulted("shorts as bytes", Edge.CAST, x -> x.recipe(1, 0, 0, 2));
        edge.faulted("shorts as ints", Edge.CAST, x -> x.recipe(1, 2, 0, 2));
        for (int lane = 0; lane < 3; lane++) {
            int told = lane;
            edge.promise(6);
            edge.faulted("nothing is no CAST, lane " + lane, Edge.NULL, x -> x.recipe(Edge.NOTHING, told, 0, 2));
            edge.promise(6, due -> due.row(0, told, codes("w7")));
            SoftGlass x = edge.takes("lane " + lane, 0, y -> y.recipe(0, told, 0, 2));
            edge.is("its item", x.item(0, 0), 7);
        }
    }

    private static void recipeCells() {
        edge.promise(6, due -> due.row(1, 1, codes(";w7;t5")));
        edge.faulted("n -1", Edge.SIZE, x -> x.recipe(1, 1, 0, -1));
        edge.faulted("n least", Edge.SIZE, x -> x.recipe(1, 1, 0, Edge.LEAST));
        edge.faulted("i -1", Edge.INDEX, x -> x.recipe(1, 1, -1, 2));
        edge.faulted("i least", Edge.INDEX, x -> x.recipe(1, 1, Edge.LEAST, 2));
        SoftGlass x = edge.takes("the last cells", 0, y -> y.recipe(1, 1, 4, 2));
        edge.is("t5", x.item(0, 0), 105);
        edge.faulted("one cell too few", Edge.INDEX, y -> y.recipe(1, 1, 4, 3));
        edge.faulted("i most", Edge.INDEX, y -> y.recipe(1, 1, Edge.MOST, 2));
        edge.faulted("n most", Edge.INDEX, y -> y.recipe(1, 1, 1, Edge.MOST));
        edge.takes("only the cells told", 0, y -> y.recipe(1, 1, 1, 2));
        edge.refused("no code, from 0 on", -100, y -> y.recipe(1, 1, 0, 0));
        edge.refused("no code, from the end on", -100, y -> y.recipe(1, 1, 6, 0));
        edge.faulted("no code, from behind the end on", Edge.INDEX, y -> y.recipe(1, 1, 7, 0));
        edge.faulted("no code, from -1 on", Edge.INDEX, y -> y.recipe(1, 1, -1, 0));
        edge.refused("the place is told from i on", -101, y -> y.recipe(1, 1, 1, 1));
        edge.promise(6, due -> due.row(1, 1));
        edge.faulted("a row of no cells", Edge.INDEX, y -> y.recipe(1, 1, 0, 1));
        edge.refused("no code of a row of no cells", -100, y -> y.recipe(1, 1, 0, 0));
    }

    private static void recipeNumbers() {
        for (char letter : new char[] {'w', 't', 'b', 'm'}) {
            int hundreds = 100 * "wtbm".indexOf(letter);
            wrong(letter + "0", 1);
            item(letter + "1", hundreds + 1);
            item(letter + "9", hundreds + 9);
            item(letter + "10", hundreds + 10);
            item(letter + "99", hundreds + 99);
            item(letter + "01", hundreds + 1);
            wrong(letter + "00", 1);
            wrong(letter + "100", 3);
            wrong(letter + "000", 1);
        }
        item("u0", 400);
        item("u9", 409);
        wrong("u10", 2);
        wrong("u00", 2);
        wrong("o0", 1);
        item("o1", 501);
        item("o9", 509);
        wrong("o10", 2);
        item("j0", 600);
        item("j7", 607);
        wrong("j8", 1);
        wrong("j9", 1);
        wrong("j70", 2);
    }

    /** A text of just this item. */
    private static void item(String text, int told) {
        edge.promise(6, due -> due.row(1, 1, codes(text)));
        SoftGlass x = edge.takes(text, 0, y -> y.recipe(1, 1, 0, text.length()));
        edge.is(text + " is one item", x.item(0, -1), 1);
        edge.is(text + " as an item", x.item(0, 0), told);
    }

    private static void wrong(String text, int place) {
        edge.promise(6, due -> due.row(1, 1, codes(text)));
        edge.refused("first fault of '" + text + "'", -100 - place, x -> x.recipe(1, 1, 0, text.length()));
    }

    private static void recipeFirstFaults() {
        for (char letter : new char[] {'w', 't', 'b', 'm', 'u', 'o', 'j'}) {
            wrong("" + letter, 1);
            wrong(letter + ";", 1);
            wrong("" + letter + letter, 1);
            wrong(letter + "1" + letter, 2);
            wrong(letter + "1;", 3);
            wrong(letter + "1;;", 3);
            wrong("w1;" + letter, 4);
        }
        wrong(";", 0);
        wrong("1", 0);
        wrong(";w1", 0);
        wrong("w1;1", 3);
        wrong("w1;x", 3);
        wrong("w12;", 4);
        wrong("w12;b0", 5);
        wrong("w12;b0;x", 5);
        wrong("w0x", 1);
        wrong("w1x", 2);
        wrong("w10x", 3);
    }

    private static void recipeItems() {
        String seven = "t1;t1;t1;t1;t1;t1;t1";
        edge.promise(6, due -> due.row(1, 1, codes(seven + ";j3")));
        SoftGlass x = edge.takes("eight items", 0, y -> y.recipe(1, 1, 0, 23));
        edge.is("how many", x.item(0, -1), 8);
        edge.is("the eighth", x.item(0, 7), 603);
        wrong(seven + ";", 21);
        wrong(seven + ";t1;", 23);
        wrong(seven + ";t1;t1", 23);
        wrong(seven + ";t1;x", 23);
        wrong(seven + ";t1x", 23);
        wrong(seven + ";x", 21);
        String longest = "w99;w99;w99;w99;w99;w99;w99;w99";
        edge.promise(6, due -> due.row(1, 1, codes(longest)));
        SoftGlass y = edge.takes("the longest text", 0, z -> z.recipe(1, 1, 0, 31));
        edge.is("its last item", y.item(0, 7), 99);
        wrong(longest + "9", 31);
        wrong(longest + ";w9", 31);
    }

    private static void recipeCodes() {
        int[][] texts = {{118, '1'}, {120, '1'}, {'W', '1'}, {'w' - 256, '1'}, {'w' + 256, '1'}, {'w' + 65536, '1'}, {0, '1'},
            {-1, '1'}};
        for (int[] t : texts) {
            edge.promise(6, due -> due.row(2, 2, t));
            edge.refused("code " + t[0] + " is no letter", -100, x -> x.recipe(2, 2, 0, 2));
        }
        for (int code : new int[] {47, 58, '1' + 256, 1, 0, -1}) {
            edge.promise(6, due -> due.row(2, 2, 'w', code));
            edge.refused("code " + code + " is no digit", -101, x -> x.recipe(2, 2, 0, 2));
        }
        for (int code : new int[] {47, 58, 60, ';' + 256, 0, -1}) {
            edge.promise(6, due -> due.row(2, 2, 'w', '1', code, 'w', '1'));
            edge.refused("code " + code + " is no ;", -102, x -> x.recipe(2, 2, 0, 5));
        }
        edge.promise(6, due -> due.row(0, 0, 'w' + 256, '1' + 256));
        edge.takes("a byte is cut as it is put, not as it is read", 0, x -> x.recipe(0, 0, 0, 2));
    }

    private static void recipeFull() {
        edge.promise(6, due -> recipes(due, 5));
        SoftGlass x = edge.takes("the sixth", 5, y -> y.recipe(1, 1, 0, 2));
        edge.is("six", x.many(1), 6);
        edge.promise(6, due -> recipes(due, 6));
        edge.refused("a seventh", Edge.FULL, y -> y.recipe(1, 1, 0, 2));
        edge.refused("a seventh that is wrong", -101, y -> y.recipe(1, 1, 0, 1));
        SoftGlass full = edge.fresh();
        full.recipe(1, 1, 0, 2);
        edge.is("what was refused is no recipe", full.item(6, -1), Edge.UNKNOWN);
    }

    private static void recipes(Due due, int n) {
        for (int k = 0; k < n; k++) {
            due.is("recipe " + k, due.recipe("w" + (k + 1)), k);
        }
        due.row(1, 1, 't', '9');
    }

    private static void recipeFirstOfSeveral() {
        edge.promise(6, due -> {
            recipes(due, 6);
            due.row(1, 1, 'w', '0');
        });
        edge.refused("no sheet and a lane", Edge.UNKNOWN, x -> x.recipe(4, 3, -1, -1));
        edge.refused("a lane and CAST", Edge.OUTSIDE, x -> x.recipe(1, 3, -1, -1));
        edge.refused("a lane and NULL", Edge.OUTSIDE, x -> x.recipe(Edge.NOTHING, 3, -1, -1));
        edge.faulted("CAST and SIZE", Edge.CAST, x -> x.recipe(1, 0, -1, -1));
        edge.faulted("NULL and SIZE", Edge.NULL, x -> x.recipe(Edge.NOTHING, 0, -1, -1));
        edge.faulted("SIZE and INDEX", Edge.SIZE, x -> x.recipe(1, 1, -1, -1));
        edge.faulted("INDEX and a first fault", Edge.INDEX, x -> x.recipe(1, 1, 0, 3));
        edge.refused("a first fault and FULL", -101, x -> x.recipe(1, 1, 0, 2));
    }

    // ---- promise 7

    private static void itemBounds() {
        edge.promise(7);
        for (int q : new int[] {Edge.LEAST, -1, 2, 6, Edge.MOST}) {
            edge.refused("recipe " + q, Edge.UNKNOWN, x -> x.item(q, -1));
            edge.refused("item 0 of recipe " + q, Edge.UNKNOWN, x -> x.item(q, 0));
        }
        for (int k : new int[] {Edge.LEAST, -2, 7, 8, Edge.MOST}) {
            edge.refused("item " + k + " of seven", Edge.UNKNOWN, x -> x.item(Edge.LONG, k));
        }
        edge.tells("how many", 7, x -> x.item(Edge.LONG, -1));
        edge.tells("the first", 2, x -> x.item(Edge.LONG, 0));
        edge.tells("the last", 601, x -> x.item(Edge.LONG, 6));
        edge.refused("item 1 of one", Edge.UNKNOWN, x -> x.item(Edge.SHORT, 1));
    }

    // ---- promise 8

    private static void makeBounds() {
        edge.promise(8);
        for (int n : new int[] {Edge.LEAST, -1, 4, 8, Edge.MOST}) {
            edge.refused("piece " + n, Edge.UNKNOWN, x -> x.make(n, Edge.SHORT));
        }
        for (int n : new int[] {Edge.LEAST, -1, 2, 6, Edge.MOST}) {
            edge.refused("recipe " + n, Edge.UNKNOWN, x -> x.make(Edge.SOFT, n));
            edge.refused("recipe " + n + ", fallen", Edge.UNKNOWN, x -> x.make(Edge.FALLEN, n));
        }
        edge.refused("fallen", Edge.STATE, x -> x.make(Edge.FALLEN, Edge.SHORT));
        edge.promise(8, due -> {
            due.piece(9, 3, 20);
            due.recipe("w99;w99;w99;w99;w99;w99;w99;w99");
        });
        edge.takes("the longest", 792, x -> x.make(0, 0));
    }

    private static void makeByClock() {
        edge.promise(8, due -> {
            due.piece(300, 20, 1100, 200, 10, 1000);
            due.piece(300, 20, 1100, 200, 10, 1000);
            due.recipe("w1");
            due.recipe("t1");
            due.recipe("b1");
            due.recipe("m1");
            due.recipe("w2;b3");
        });
        for (int kind = 0; kind < 4; kind++) {
            int k = kind;
            SoftGlass x = edge.takes("one tenth of kind " + kind, 1, y -> y.make(0, k));
            x.tenth(1, kind, 1);
            alike(x, "as a tenth of kind " + kind);
        }
        SoftGlass x = edge.takes("item by item", 5, y -> y.make(0, 4));
        x.tenth(1, 0, 2);
        x.tenth(1, 2, 3);
        alike(x, "as two tenths and three");
    }

    /** Pieces 0 and 1 tell the same. */
    private static void alike(SoftGlass x, String what) {
        for (int w = 0; w < 6; w++) {
            edge.is(what + ", all " + w, x.ofPiece(0, w), x.ofPiece(1, w));
            edge.is(what + ", ring 0 " + w, x.ring(0, 0, w), x.ring(1, 0, w));
            edge.is(what + ", ring 1 " + w, x.ring(0, 1, w), x.ring(1, 1, w));
        }
    }

    private static void makeByLook() {
        // turned it is of 1100, 957, 838, 739, 657, 588: soft 6, 4, 3, 2, 1, 0
        look("u6: as soft as told", "u6", 0, 1100, 300, 20, 1100);
        look("u5: above it for a tenth", "u5", 1, 957, 300, 20, 1100);
        look("u4", "u4", 1, 957, 300, 20, 1100);
        look("u3", "u3", 2, 838, 300, 20, 1100);
        look("u0", "u0", 5, 588, 300, 20, 1100);
        look("u9 of soft 10", "u9", 1, 1291, 300, 20, 1500);
        look("u0 of the stiff", "u0", 0, 599, 300, 20, 599);
        // thick 2, in the mouth: 599, 712; 700, 775, 822, and so on up to 900
        look("o2: as soft as told", "o2", 0, 700, 100, 50, 700);
        look("o3: below it for two tenths", "o3", 2, 822, 100, 50, 700);
        look("o1 of the stiff", "o1", 1, 712, 100, 50, 599);
        look("o9: 99 tenths at most", "o9", 99, 900, 100, 50, 700);
        edge.promise(8, due -> {
            due.piece(Edge.rings(8, 999, 1, 1500));
            due.piece(Edge.rings(8, 999, 1, 1500));
            due.recipe("u0");
        });
        SoftGlass x = edge.takes("u0: 99 tenths at most", 99, y -> y.make(0, 0));
        edge.is("it is soft still", x.ofPiece(0, 3), 7);
        x.tenth(1, 1, 99);
        alike(x, "as 99 tenths");
    }

    private static void look(String what, String text, int tenths, int heat, int... ring) {
        edge.promise(8, due -> {
            due.piece(ring);
            due.recipe(text);
        });
        SoftGlass x = edge.takes(what, tenths, y -> y.make(0, 0));
        edge.is(what + ": heat", x.ring(0, 0, 2), heat);
    }

    private static void makeJacks() {
        // soft 5
        jack("7 less 5", "j0", 2, 100, 7, 1000);
        jack("6 less 5", "j0", 1, 100, 6, 1000);
        jack("5 less 5: 1 at least", "j0", 1, 100, 5, 1000);
        jack("1 stays", "j0", 1, 100, 1, 1000);
        jack("stiff", "j0", 7, 100, 7, 599);
        jack("no such ring", "j1", 7, 100, 7, 1000);
        edge.promise(8, due -> {
            due.piece(Edge.rings(8, 100, 7, 1000));
            due.recipe("j7");
            due.recipe("j0;j0");
        });
        SoftGlass x = edge.takes("the eighth ring", 0, y -> y.make(0, 0));
        edge.is("it becomes less", x.ring(0, 7, 1), 2);
        edge.is("the one ahead of it does not", x.ring(0, 6, 1), 7);
        edge.is("twice", x.make(0, 1), 0);
        edge.is("no tenth", x.ring(0, 0, 2), 1000);
        edge.is("1 at least", x.ring(0, 0, 1), 1);
    }

    private static void jack(String what, String text, int radius, int... ring) {
        edge.promise(8, due -> {
            due.piece(ring);
            due.recipe(text);
        });
        SoftGlass x = edge.takes(what, 0, y -> y.make(0, 0));
        edge.is(what + ": radius", x.ring(0, 0, 1), radius);
        edge.is(what + ": heat", x.ring(0, 0, 2), ring[2]);
    }

    /** Two such rings hang 9, 17, 25, 32, 39, 45. */
    private static void makeFalls() {
        falls("five tenths are no fall", "w5;j1;b1", 6, 0);
        falls("it falls in the last tenth", "w6", 6, 1);
        falls("nothing more of that item", "w7", 6, 1);
        falls("nothing more of that item", "w99", 6, 1);
        falls("no item more", "w6;w1;t1;b1;m1;u0;o9;j1", 6, 1);
        falls("not even by look", "w5;w1;u0", 6, 1);
        falls("nor into the mouth", "w9;o9", 6, 1);
        edge.promise(8, due -> {
            due.piece(200, 30, 1100, 100, 30, 1500, 999, 30, 1500);
            due.x.tenth(0, 0, 4);
            due.recipe("w9;j2");
            due.recipe("w9;b9");
        });
        for (int q = 0; q < 2; q++) {
            int recipe = q;
            SoftGlass x = edge.fresh();
            edge.is("it takes a tenth or more", x.make(0, recipe) > 0 ? 1 : 0, 1);
            edge.is("fallen", x.ofPiece(0, 2), 1);
            for (int k = 0; k < 3; k++) {
                edge.is("no jack, no blow behind the fall", x.ring(0, k, 1), 30);
            }
        }
    }

    private static void falls(String what, String text, int tenths, int fallen) {
        edge.promise(8, due -> {
            due.piece(200, 1, 1100, 100, 1, 1500);
            due.recipe(text);
        });
        SoftGlass x = edge.takes(what, tenths, y -> y.make(0, 0));
        edge.is(what + ": " + text, x.ofPiece(0, 2), fallen);
        if (fallen == 1) {
            edge.is(what + ": OFF", x.ofPiece(0, 1), 45);
            edge.is(what + ": radius", x.ring(0, 1, 1), 1);
        }
    }

    // ---- promise 9

    private static void lookBounds() {
        edge.promise(9);
        for (int n : new int[] {Edge.LEAST, -1, 4, 8, Edge.MOST}) {
            edge.refused("piece " + n, Edge.UNKNOWN, x -> x.look(n, Edge.SHORT, -1, 0, 0, 0));
        }
        for (int n : new int[] {Edge.LEAST, -1, 2, 6, Edge.MOST}) {
            edge.refused("recipe " + n, Edge.UNKNOWN, x -> x.look(Edge.SOFT, n, -1, 0, 0, 0));
        }
        for (int k : new int[] {Edge.LEAST, -2, 7, 8, Edge.MOST}) {
            edge.refused("item " + k + " of seven", Edge.UNKNOWN, x -> x.look(Edge.SOFT, Edge.LONG, k, 0, 0, 0));
        }
        for (int k = -1; k < 7; k++) {
            int item = k;
            edge.tells("item " + k, 300, x -> x.look(Edge.SOFT, Edge.LONG, item, 0, 0, 0));
        }
        for (int d : new int[] {Edge.LEAST, -1, 21, Edge.MOST}) {
            edge.refused("d " + d, Edge.OUTSIDE, x -> x.look(Edge.SOFT, Edge.SHORT, 0, d, 0, 0));
            edge.tells("d " + d + " is not looked at", 300, x -> x.look(Edge.SOFT, Edge.SHORT, -1, d, 0, 0));
        }
        edge.tells("d 0", 300, x -> x.look(Edge.SOFT, Edge.SHORT, 0, 0, 0, 0));
        edge.tells("d 20", 300, x -> x.look(Edge.SOFT, Edge.SHORT, 0, 20, 0, 0));
        for (int r : new int[] {Edge.LEAST, -1, 2, 8, Edge.MOST}) {
            edge.refused("ring " + r, Edge.UNKNOWN, x -> x.look(Edge.SOFT, Edge.SHORT, -1, 0, r, 0));
            edge.tells("ring " + r + " is not looked at", 2, x -> x.look(Edge.SOFT, Edge.SHORT, -1, 0, r, 10));
        }
        edge.tells("the last ring", 200, x -> x.look(Edge.SOFT, Edge.SHORT, -1, 0, 1, 0));
        edge.tells("the eighth ring", 100, x -> x.look(Edge.EIGHT, Edge.SHORT, -1, 0, 7, 0));
        for (int what : new int[] {Edge.LEAST, Edge.LEAST + 10, -10, -1, 6, 9, 16, Edge.MOST}) {
            edge.refused("what " + what, Edge.OUTSIDE, x -> x.look(Edge.SOFT, Edge.SHORT, -1, 0, 0, what));
        }
        edge.refused("fallen", Edge.STATE, x -> x.look(Edge.FALLEN, Edge.SHORT, -1, 0, 0, 0));
        edge.tells("what 5", 16, x -> x.look(Edge.STIFF, Edge.SHORT, -1, 0, 0, 5));
        edge.tells("what 15", 500, x -> x.look(Edge.SOFT, Edge.SHORT, -1, 0, 0, 15));
    }

    private static void lookFirstOfSeveral() {
        edge.promise(9);
        edge.refused("item and d", Edge.UNKNOWN, x -> x.look(Edge.SOFT, Edge.SHORT, 1, 21, 0, 0));
        edge.refused("d and ring", Edge.OUTSIDE, x -> x.look(Edge.SOFT, Edge.SHORT, 0, 21, 2, 0));
        edge.refused("d and what", Edge.OUTSIDE, x -> x.look(Edge.SOFT, Edge.SHORT, 0, 21, 0, 6));
        for (int what : new int[] {Edge.LEAST, -1, 6, 9}) {
            edge.refused("ring and what " + what, Edge.UNKNOWN, x -> x.look(Edge.SOFT, Edge.SHORT, 0, 0, 2, what));
        }
        edge.refused("what 16, no ring", Edge.OUTSIDE, x -> x.look(Edge.SOFT, Edge.SHORT, 0, 0, 2, 16));
        edge.refused("item, fallen", Edge.UNKNOWN, x -> x.look(Edge.FALLEN, Edge.SHORT, 1, 0, 0, 0));
        edge.refused("d, fallen", Edge.OUTSIDE, x -> x.look(Edge.FALLEN, Edge.SHORT, 0, 21, 0, 0));
        edge.refused("ring, fallen", Edge.UNKNOWN, x -> x.look(Edge.FALLEN, Edge.SHORT, 0, 0, 2, 0));
        edge.refused("what, fallen", Edge.OUTSIDE, x -> x.look(Edge.FALLEN, Edge.SHORT, 0, 0, 0, 6));
        edge.refused("fallen, at an item", Edge.STATE, x -> x.look(Edge.FALLEN, Edge.SHORT, 0, 20, 1, 15));
    }

    private static void lookLate() {
        // hanging or turned it is of 1100, 957, 838, 739, 657; jacked to 16 at 957, of 842, 746, 666, 598
        edge.promise(9, due -> {
            due.piece(300, 20, 1100);
            due.recipe("t1;j0;t1");
            due.piece(200, 50, 1100, 100, 50, 1500, 999, 50, 1500);
            due.recipe("j0;b1");
        });
        edge.tells("at none: heat", 842, x -> x.look(0, 0, -1, 3, 0, 2));
        edge.tells("at none: 20 less 4", 16, x -> x.look(0, 0, -1, 3, 0, 1));
        edge.tells("by 0", 842, x -> x.look(0, 0, 0, 0, 0, 2));
        edge.tells("by 1 at the first: heat, jacked to 17 at 838", 741, x -> x.look(0, 0, 0, 1, 0, 2));
        edge.tells("by 1 at the first: 20 less 3", 17, x -> x.look(0, 0, 0, 1, 0, 1));
        edge.tells("by 1 at the jack: 20 less 3", 17, x -> x.look(0, 0, 1, 1, 0, 1));
        edge.tells("by 2 at the jack: 20 less 2", 18, x -> x.look(0, 0, 1, 2, 0, 1));
        edge.tells("by 1 at the last: 20 less 4", 16, x -> x.look(0, 0, 2, 1, 0, 1));
        edge.tells("by 1 at the last: OFF 3, then turned", 0, x -> x.look(0, 0, 2, 1, 0, 11));
        edge.tells("by 4 at the first: OFF 10, twice turned", 0, x -> x.look(0, 0, 0, 4, 0, 11));
        edge.tells("by 4 at the last: OFF 3, 5, 6, 6, once turned", 1, x -> x.look(0, 0, 2, 4, 0, 11));
        edge.tells("by 20 it falls", 1, x -> x.look(1, 1, 0, 20, 0, 12));
        edge.tells("and is not jacked then", 50, x -> x.look(1, 1, 0, 20, 0, 1));
        for (int ring = 0; ring < 3; ring++) {
            int r = ring;
            edge.tells("nor blown, ring " + ring, 50, x -> x.look(1, 1, 0, 20, r, 1));
        }
        edge.tells("it has not fallen", 0, x -> x.ofPiece(1, 2));
    }
}
