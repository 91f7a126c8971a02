/** Promises 1 to 5: a new object, piece, ring, ofPiece, tenth. */
public final class PiecesTest {
    private static final Due due = new Due("PiecesTest");
    /** Eight rings so thick and hot that they hardly cool: 9 off a tenth while hanging. */
    private static final int[] HOT = {999, 1, 1500, 999, 1, 1500, 999, 1, 1500, 999, 1, 1500,
        999, 1, 1500, 999, 1, 1500, 999, 1, 1500, 999, 1, 1500};

    public static void main(String[] args) {
        newObject();
        pieceAndFacts();
        pieceEdges();
        pieceRefusals();
        pieceFull();
        cooling();
        mouthAndBlow();
        clamps();
        strain();
        hanging();
        stopsAtFall();
        tenthRefusals();
        due.end();
    }

    private static void newObject() {
        due.fresh();
        for (int what = 0; what < 4; what++) {
            due.is("many of a new object", due.x.many(what), 0);
        }
        for (int k = 0; k < 4; k++) {
            due.is("lose of a new object", due.x.lose(k), 0);
        }
        due.is("trace", due.x.trace(), 0);
        due.is("fault", due.x.fault(), 0);
        due.is("ring", due.x.ring(0, 0, 0), SoftGlass.UNKNOWN);
        due.is("item", due.x.item(0, -1), SoftGlass.UNKNOWN);
        due.is("order", due.x.order(1, -1), SoftGlass.OUTSIDE);
    }

    private static void pieceAndFacts() {
        due.fresh();
        due.is("piece", due.piece(200, 10, 1100, 100, 33, 599, 50, 5, 600), 0);
        due.ringIs("new", 0, 0, 200, 10, 1100, 20, 6, 0);
        due.ringIs("new", 0, 1, 100, 33, 599, 3, 0, 0);
        due.ringIs("new", 0, 2, 50, 5, 600, 10, 1, 0);
        int[] all = {3, 0, 0, 6, 0, 350};
        for (int what = 0; what < all.length; what++) {
            due.is("ofPiece " + what, due.x.ofPiece(0, what), all[what]);
        }
        due.is("a second piece", due.piece(7, 7, 699), 1);
        due.ringIs("second", 1, 0, 7, 7, 699, 1, 1, 0);
        due.is("the first is as it was", due.x.ring(0, 2, 0), 50);
        due.is("ring of no piece", due.x.ring(2, 0, 0), SoftGlass.UNKNOWN);
        due.is("ring of piece -1", due.x.ring(-1, 0, 9), SoftGlass.UNKNOWN);
        due.is("ring -1", due.x.ring(0, -1, 0), SoftGlass.UNKNOWN);
        due.is("ring 3 comes ahead of what", due.x.ring(0, 3, 6), SoftGlass.UNKNOWN);
        due.is("ring what 6", due.x.ring(0, 2, 6), SoftGlass.OUTSIDE);
        due.is("ring what -1", due.x.ring(0, 2, -1), SoftGlass.OUTSIDE);
        due.is("ofPiece of none", due.x.ofPiece(2, 9), SoftGlass.UNKNOWN);
        due.is("ofPiece what 6", due.x.ofPiece(0, 6), SoftGlass.OUTSIDE);
        due.is("ofPiece what -1", due.x.ofPiece(0, -1), SoftGlass.OUTSIDE);
    }

    private static void pieceEdges() {
        due.fresh();
        due.is("least", due.piece(1, 1, 0), 0);
        due.is("most", due.piece(999, 99, 1500), 1);
        due.is("glass 0", due.piece(0, 1, 0), SoftGlass.OUTSIDE);
        due.is("glass 1000", due.piece(1000, 1, 0), SoftGlass.OUTSIDE);
        due.is("radius 0", due.piece(1, 0, 0), SoftGlass.OUTSIDE);
        due.is("radius 100", due.piece(999, 100, 0), SoftGlass.OUTSIDE);
        due.is("radius beyond glass", due.piece(5, 6, 0), SoftGlass.OUTSIDE);
        due.is("radius as glass", due.piece(5, 5, 0), 2);
        due.is("heat -1", due.piece(5, 5, -1), SoftGlass.OUTSIDE);
        due.is("heat 1501", due.piece(5, 5, 1501), SoftGlass.OUTSIDE);
        due.is("the last ring is wrong", due.piece(5, 5, 9, 5, 5, 9, 5, 5, 1501), SoftGlass.OUTSIDE);
        due.is("many", due.x.many(0), 3);
        due.is("eight rings", due.piece(HOT), 3);
        due.is("rings", due.x.ofPiece(3, 0), 8);
        due.is("glass of eight", due.x.ofPiece(3, 5), 8 * 999);
        due.row(0, 0, 9, 9, 100, 50, 5, 7, 1);
        due.is("piece by bytes from 3 on", due.x.piece(0, 0, 3, 1), 4);
        due.ringIs("bytes", 4, 0, 50, 5, 7);
        due.row(1, 1, 300, 5, 1000);
        due.is("piece by shorts", due.x.piece(1, 1, 0, 1), 5);
        due.ringIs("shorts", 5, 0, 300, 5, 1000);
    }

    private static void pieceRefusals() {
        due.fresh();
        due.is("sheet 4, lane 3", due.x.piece(4, 3, 0, 1), SoftGlass.UNKNOWN);
        due.is("sheet -1", due.x.piece(-1, 0, 0, 1), SoftGlass.UNKNOWN);
        due.is("lane 3 comes ahead of NULL", due.x.piece(0, 3, 0, 1), SoftGlass.OUTSIDE);
        due.is("lane -1", due.x.piece(0, -1, 0, 1), SoftGlass.OUTSIDE);
        due.is("nothing is no CAST", due.x.piece(0, 1, -1, -1), Due.NULL);
        due.is("fault", due.x.fault(), 1);
        due.row(0, 0, 9, 3, 7);
        due.is("CAST comes ahead of SIZE", due.x.piece(0, 1, -1, -1), Due.CAST);
        due.is("fault", due.x.fault(), 2);
        due.is("SIZE comes ahead of INDEX", due.x.piece(0, 0, -1, -1), Due.SIZE);
        due.is("fault", due.x.fault(), 4);
        due.is("i -1", due.x.piece(0, 0, -1, 1), Due.INDEX);
        due.is("fault", due.x.fault(), 3);
        due.is("one cell too few", due.x.piece(0, 0, 1, 1), Due.INDEX);
        due.is("no ring from behind the row", due.x.piece(0, 0, 4, 0), Due.INDEX);
        due.is("no ring from below the row", due.x.piece(0, 0, -1, 0), Due.INDEX);
        due.is("no ring from its end", due.x.piece(0, 0, 3, 0), SoftGlass.OUTSIDE);
        due.is("a refusal is no fault", due.x.fault(), 0);
        due.is("three times n wraps", due.x.piece(0, 0, 0, 1431655766), Due.INDEX);
        due.is("i and n wrap", due.x.piece(0, 0, Integer.MAX_VALUE, Integer.MAX_VALUE), Due.INDEX);
        due.row(3, 0, 9, 3, 7, 9, 3, 7, 9, 3, 7, 9, 3, 7, 9, 3, 7, 9, 3, 7, 9, 3, 7, 9, 3, 7, 9, 3, 7);
        due.is("n 9, INDEX comes first", due.x.piece(3, 0, 3, 9), Due.INDEX);
        due.is("n 9", due.x.piece(3, 0, 0, 9), SoftGlass.OUTSIDE);
        due.is("none of these made one", due.x.many(0), 0);
        due.is("it goes", due.x.piece(3, 0, 3, 8), 0);
        due.is("fault of what went", due.x.fault(), 0);
    }

    private static void pieceFull() {
        due.fresh();
        for (int k = 0; k < 8; k++) {
            due.is("piece " + k, due.piece(9, 3, k), k);
        }
        due.is("OUTSIDE comes ahead of FULL", due.piece(9, 3, 1501), SoftGlass.OUTSIDE);
        due.is("a ninth", due.piece(9, 3, 1), SoftGlass.FULL);
        due.is("many", due.x.many(0), 8);
        due.is("the last", due.x.ring(7, 0, 2), 7);
    }

    private static void cooling() {
        due.fresh();
        due.piece(200, 10, 1100, 100, 20, 1000, 50, 5, 700);
        due.is("no tenth", due.x.tenth(0, 0, 0), 0);
        due.is("heat as it was", due.x.ring(0, 0, 2), 1100);
        due.is("turned", due.x.tenth(0, 1, 1), 0);
        // 1100 - 1080 / 30 - 100 / 8 - 800 / 8; 1000 - 980 / 15 + 100 / 8 - 300 / 8; 700 - 680 / 20 + 300 / 8
        due.is("ring 0", due.x.ring(0, 0, 2), 952);
        due.is("ring 1", due.x.ring(0, 1, 2), 910);
        due.is("ring 2", due.x.ring(0, 2, 2), 703);
    }

    private static void mouthAndBlow() {
        due.fresh();
        due.piece(100, 10, 1000, 100, 10, 1300);
        // thick 10: 1000 + 200 / 12 - 700 / 8 + 300 / 8; 1300 - 100 / 12 - 300 / 8
        due.is("mouth", due.x.tenth(0, 3, 1), 0);
        due.is("ring 0", due.x.ring(0, 0, 2), 1000 + 16 - 87 + 37);
        due.is("ring 1", due.x.ring(0, 1, 2), 1300 - 8 - 37);
        due.is("the mouth leaves radii", due.x.ring(0, 1, 1), 10);
        // 966 - 946 / 20 + 289 / 8 - 666 / 8 = 872, soft 3; 1255 - 1235 / 20 - 289 / 8 = 1158, soft 6
        due.is("blow", due.x.tenth(0, 2, 1), 0);
        due.ringIs("blown", 0, 0, 100, 10, 872, 10, 3);
        due.ringIs("blown", 0, 1, 100, 16, 1158, 6, 6);
        due.piece(999, 97, 1400, 999, 50, 1400);
        due.x.tenth(1, 2, 1);
        due.is("the first ring is cooler by the iron", due.x.ring(1, 0, 1), 97);
        due.is("the second one grows", due.x.ring(1, 1, 1), 58);
        due.piece(999, 97, 1500);
        due.x.tenth(2, 2, 1);
        due.is("99 at most", due.x.ring(2, 0, 1), 99);
        due.piece(12, 10, 1500);
        due.x.tenth(3, 2, 1);
        due.is("not beyond its glass", due.x.ring(3, 0, 1), 12);
        due.piece(50, 10, 400);
        due.x.tenth(4, 2, 3);
        due.is("stiff glass does not grow", due.x.ring(4, 0, 1), 10);
        // all three of soft 8 behind the tenth: the first of several grows
        due.piece(999, 9, 1500, 999, 9, 1359, 999, 9, 1359);
        due.x.tenth(5, 2, 1);
        due.is("ring 0 of 1327", due.x.ring(5, 0, 4), 8);
        due.is("ring 1 of 1365", due.x.ring(5, 1, 4), 8);
        due.is("the first of several", due.x.ring(5, 0, 1), 17);
        due.is("not the second", due.x.ring(5, 1, 1), 9);
    }

    private static void clamps() {
        due.fresh();
        due.piece(1, 1, 0, 999, 1, 1500);
        due.x.tenth(0, 3, 1);
        // 0 + 1200 / 3 + 300 / 8 + 1500 / 8
        due.is("a thin ring warms up", due.x.ring(0, 0, 2), 400 + 37 + 187);
        due.piece(999, 1, 1500, 1, 1, 1490, 999, 1, 1500);
        due.x.tenth(1, 3, 1);
        due.is("not above 1500", due.x.ring(1, 1, 2) <= 1500 ? 1 : 0, 1);
        due.piece(1, 1, 10);
        due.x.tenth(2, 1, 1);
        // (10 less 20) by 11 is cut to 0; (300 less 10) by 8 is 36
        due.is("cut towards 0", due.x.ring(2, 0, 2), 46);
        due.piece(1, 1, 8);
        due.x.tenth(3, 1, 1);
        due.is("-12 by 11 is -1", due.x.ring(3, 0, 2), 8 + 1 + 36);
        due.piece(999, 1, 0, 999, 1, 0, 999, 1, 0);
        due.x.tenth(4, 1, 1);
        due.is("by the iron", due.x.ring(4, 0, 2), 37);
        due.is("0 stays 0", due.x.ring(4, 1, 2), 0);
    }

    private static void strain() {
        due.fresh();
        due.piece(100, 10, 610, 100, 10, 400);
        // 610 - 590 / 20 - 210 / 8 - 310 / 8 = 517; 400 - 380 / 20 + 210 / 8 = 407
        due.x.tenth(0, 1, 1);
        due.ringIs("gone stiff", 0, 0, 100, 10, 517, 10, 0, 11);
        due.is("no ring behind the last", due.x.ring(0, 1, 5), 0);
        due.is("greatest strain", due.x.ofPiece(0, 4), 11);
        due.x.tenth(0, 1, 1);
        due.is("none is added while stiff", due.x.ring(0, 0, 5), 11);
        due.piece(100, 10, 599, 100, 10, 0);
        due.x.tenth(1, 1, 1);
        due.is("was not soft", due.x.ring(1, 0, 5), 0);
        due.piece(999, 1, 1500, 100, 10, 610, 100, 10, 100);
        due.x.tenth(2, 1, 1);
        due.is("one is soft still", due.x.ring(2, 0, 5), 0);
        due.is("these two are stiff: 629 is soft", due.x.ring(2, 1, 4), 1);
        due.is("so none", due.x.ring(2, 1, 5), 0);
        due.piece(100, 10, 400, 100, 10, 610);
        due.x.tenth(3, 1, 1);
        // 400 - 380 / 20 + 210 / 8 - 100 / 8 = 395; 610 - 590 / 20 - 210 / 8 = 555
        due.is("the hotter one may be behind", due.x.ring(3, 0, 5), 16);
        due.x.tenth(3, 3, 5);
        due.is("soft again", due.x.ring(3, 1, 4) > 0 ? 1 : 0, 1);
        due.is("it keeps its strain", due.x.ring(3, 0, 5), 16);
    }

    private static void hanging() {
        due.fresh();
        due.piece(300, 20, 1100);
        int[] offs = {4, 7, 9, 10, 10};
        for (int k = 0; k < offs.length; k++) {
            due.is("hangs " + k, due.x.tenth(0, 0, 1), offs[k]);
        }
        due.is("turned", due.x.tenth(0, 1, 1), 5);
        due.is("in the mouth it is turned", due.x.tenth(0, 3, 1), 0);
        due.is("0 at least", due.x.tenth(0, 2, 1), 0);
        due.piece(HOT);
        due.is("36 off", due.x.tenth(1, 0, 4), 36);
        due.is("not fallen", due.x.ofPiece(1, 2), 0);
        due.is("turned back", due.x.tenth(1, 2, 1), 31);
        due.is("40 is not fallen", due.x.tenth(1, 0, 1), 40);
        due.is("not fallen at 40", due.x.ofPiece(1, 2), 0);
        due.is("fallen", due.x.tenth(1, 0, 1), 49);
        due.is("fallen at 49", due.x.ofPiece(1, 2), 1);
        due.is("OFF of what fell", due.x.ofPiece(1, 1), 49);
    }

    /** A piece stays as it was when it fell, however many tenths were asked for. */
    private static void stopsAtFall() {
        due.fresh();
        due.piece(200, 1, 1100, 100, 1, 1500);
        int[] offs = {9, 17, 25, 32, 39, 45};
        for (int k = 0; k < offs.length; k++) {
            due.is("hangs " + k, due.x.tenth(0, 0, 1), offs[k]);
        }
        due.is("fallen", due.x.ofPiece(0, 2), 1);
        int[] asked = {6, 7, 10, 200};
        for (int k = 0; k < asked.length; k++) {
            int p = due.piece(200, 1, 1100, 100, 1, 1500);
            due.is("tenths asked for: " + asked[k], due.x.tenth(p, 0, asked[k]), 45);
            due.is("OFF is kept", due.x.ofPiece(p, 1), 45);
            due.is("fallen", due.x.ofPiece(p, 2), 1);
            due.is("heat of ring 0 as it fell", due.x.ring(p, 0, 2), due.x.ring(0, 0, 2));
            due.is("heat of ring 1 as it fell", due.x.ring(p, 1, 2), due.x.ring(0, 1, 2));
            due.is("strain as it fell", due.x.ofPiece(p, 4), 0);
            due.is("no more tenths", due.x.tenth(p, 0, 1), SoftGlass.STATE);
        }
        int p = due.piece(200, 1, 1100, 100, 1, 1500);
        due.is("5 tenths are no fall", due.x.tenth(p, 0, 5), 39);
        due.is("it may be turned back", due.x.tenth(p, 1, 200), 0);
        due.is("all 200 went by", due.x.ofPiece(p, 3), 0);
        int q = due.piece(HOT);
        due.is("36 off", due.x.tenth(q, 0, 4), 36);
        due.x.tenth(q, 1, 1);
        due.is("40, then 49", due.x.tenth(q, 0, 9), 49);
    }

    private static void tenthRefusals() {
        due.fresh();
        due.piece(HOT);
        due.is("no piece comes ahead of kind", due.x.tenth(1, 4, 1), SoftGlass.UNKNOWN);
        due.is("kind 4", due.x.tenth(0, 4, 1), SoftGlass.OUTSIDE);
        due.is("kind -1", due.x.tenth(0, -1, 1), SoftGlass.OUTSIDE);
        due.is("n -1", due.x.tenth(0, 0, -1), SoftGlass.OUTSIDE);
        due.is("n 201", due.x.tenth(0, 0, 201), SoftGlass.OUTSIDE);
        due.is("nothing changed", due.x.ring(0, 0, 2), 1500);
        due.x.tenth(0, 0, 5);
        due.is("fallen", due.x.tenth(0, 1, 0), SoftGlass.STATE);
        due.is("OUTSIDE comes ahead of STATE", due.x.tenth(0, 4, 0), SoftGlass.OUTSIDE);
        due.is("it still tells", due.x.ring(0, 0, 0), 999);
        due.piece(5, 5, 20);
        due.is("n 200", due.x.tenth(1, 0, 200), 0);
    }
}
