/** The boundary cases of promises 1 to 5: a new object, piece, ring, ofPiece, tenth; and of PIECES and TENTHS. */
public final class PiecesEdgesTest {
    private static final Edge edge = new Edge("PiecesEdgesTest");

    public static void main(String[] args) {
        newObject();
        objectsApart();
        pieceBounds();
        pieceSheetsAndLanes();
        pieceCells();
        pieceNumbers();
        pieceFull();
        pieceFirstOfSeveral();
        ringBounds();
        ringFacts();
        ofPieceBounds();
        ofPieceFacts();
        tenthBounds();
        tenthFallen();
        tenthHeats();
        tenthQuotients();
        tenthMouth();
        tenthStrain();
        tenthStrainAgain();
        tenthOff();
        tenthBlow();
        edge.due.end();
    }

    private static void newObject() {
        edge.promise(1, Edge::nothing);
        edge.tells("FAULT ahead of any", 0, x -> new SoftGlass().fault());
        edge.tells("no trace", 0, x -> x.trace());
        for (int what = 0; what < 4; what++) {
            int w = what;
            edge.tells("none of many " + what, 0, x -> x.many(w));
        }
        edge.tells("no piece", Edge.UNKNOWN, x -> x.ofPiece(0, 0));
        edge.tells("no recipe", Edge.UNKNOWN, x -> x.item(0, -1));
        edge.tells("no job", Edge.OUTSIDE, x -> x.order(1, -1));
        edge.tells("the set of no jobs", 0, x -> x.order(0, -1));
        edge.tells("the morning of no jobs", 0, x -> x.morning(999, 0));
        for (int k = 0; k < 4; k++) {
            int sheet = k;
            edge.tells("sheet " + k + " has nothing", 0, x -> x.lose(sheet));
        }
    }

    private static void objectsApart() {
        edge.promise(1);
        SoftGlass first = edge.fresh();
        String furnished = State.of(first);
        String empty = State.of(new SoftGlass());
        edge.is("another object is new", State.of(new SoftGlass()).equals(empty) ? 1 : 0, 1);
        edge.is("the first is as it was", State.of(first).equals(furnished) ? 1 : 0, 1);
        edge.is("they are not alike", furnished.equals(empty) ? 1 : 0, 0);
    }

    // ---- promise 2

    private static void pieceBounds() {
        edge.promise(2, due -> due.row(2, 2, Edge.rings(9, 9, 3, 7)));
        edge.refused("n 0", Edge.OUTSIDE, x -> x.piece(2, 2, 0, 0));
        edge.takes("n 1", 0, x -> x.piece(2, 2, 0, 1));
        SoftGlass eight = edge.takes("n 8", 0, x -> x.piece(2, 2, 0, 8));
        edge.is("rings of n 8", eight.ofPiece(0, 0), 8);
        edge.is("pieces", eight.many(0), 1);
        edge.refused("n 9", Edge.OUTSIDE, x -> x.piece(2, 2, 0, 9));
    }

    private static void pieceSheetsAndLanes() {
        edge.promise(2);
        for (int k : new int[] {Edge.LEAST, -1, 4, Edge.MOST}) {
            edge.refused("sheet " + k, Edge.UNKNOWN, x -> x.piece(k, 2, 0, 1));
        }
        for (int lane : new int[] {Edge.LEAST, -1, 3, Edge.MOST}) {
            edge.refused("lane " + lane, Edge.OUTSIDE, x -> x.piece(2, lane, 0, 1));
        }
        for (int lane = 0; lane < 3; lane++) {
            for (int as = 0; as < 3; as++) {
                int had = lane;
                int told = as;
                edge.promise(2, due -> due.row(lastOf(had), had, 90, 9, 100));
                if (lane == as) {
                    edge.takes("lane " + lane, 0, x -> x.piece(lastOf(had), told, 0, 1));
                } else {
                    edge.faulted("lane " + lane + " as " + as, Edge.CAST, x -> x.piece(lastOf(had), told, 0, 1));
                }
            }
        }
        edge.promise(2);
        for (int lane = 0; lane < 3; lane++) {
            int told = lane;
            edge.faulted("nothing is no CAST, lane " + lane, Edge.NULL, x -> x.piece(Edge.NOTHING, told, 0, 1));
        }
    }

    /** Sheets 0 .. 2, one for each lane, so that the first and others are used. */
    private static int lastOf(int lane) {
        return 2 - lane;
    }

    private static void pieceCells() {
        edge.promise(2, due -> due.row(2, 2, 8, 9, 3, 7, 10, 4, 8));
        edge.faulted("n -1", Edge.SIZE, x -> x.piece(2, 2, 0, -1));
        edge.faulted("n least", Edge.SIZE, x -> x.piece(2, 2, 0, Edge.LEAST));
        edge.faulted("i -1", Edge.INDEX, x -> x.piece(2, 2, -1, 1));
        edge.faulted("i least", Edge.INDEX, x -> x.piece(2, 2, Edge.LEAST, 1));
        SoftGlass last = edge.takes("the last three cells", 0, x -> x.piece(2, 2, 4, 1));
        edge.is("their glass", last.ring(0, 0, 0), 10);
        edge.is("their radius", last.ring(0, 0, 1), 4);
        edge.is("their heat", last.ring(0, 0, 2), 8);
        edge.faulted("one cell too few", Edge.INDEX, x -> x.piece(2, 2, 5, 1));
        edge.faulted("i behind the last cell", Edge.INDEX, x -> x.piece(2, 2, 7, 1));
        edge.faulted("i most", Edge.INDEX, x -> x.piece(2, 2, Edge.MOST, 1));
        edge.takes("two rings from 1 on", 0, x -> x.piece(2, 2, 1, 2));
        edge.faulted("two rings from 2 on", Edge.INDEX, x -> x.piece(2, 2, 2, 2));
        edge.refused("none from the end on is no INDEX", Edge.OUTSIDE, x -> x.piece(2, 2, 7, 0));
        edge.faulted("none from behind the end on", Edge.INDEX, x -> x.piece(2, 2, 8, 0));
        edge.faulted("none from -1 on", Edge.INDEX, x -> x.piece(2, 2, -1, 0));
        edge.faulted("3 n wraps to 2", Edge.INDEX, x -> x.piece(2, 2, 0, 1431655766));
        edge.faulted("n most", Edge.INDEX, x -> x.piece(2, 2, 0, Edge.MOST));
        edge.faulted("i and 3 n wrap", Edge.INDEX, x -> x.piece(2, 2, Edge.MOST, 715827883));
        edge.promise(2, due -> due.row(2, 2));
        edge.faulted("a row of no cells", Edge.INDEX, x -> x.piece(2, 2, 0, 1));
        edge.refused("none of a row of no cells", Edge.OUTSIDE, x -> x.piece(2, 2, 0, 0));
    }

    private static void pieceNumbers() {
        number("glass 0", 0, 1, 0, false);
        number("glass -1", -1, 1, 0, false);
        number("glass 1", 1, 1, 0, true);
        number("glass 999", 999, 1, 0, true);
        number("glass 1000", 1000, 1, 0, false);
        number("radius 0", 9, 0, 0, false);
        number("radius -1", 9, -1, 0, false);
        number("radius 1", 9, 1, 0, true);
        number("radius 99", 999, 99, 0, true);
        number("radius 100", 999, 100, 0, false);
        number("radius as great as glass", 5, 5, 0, true);
        number("radius beyond glass", 5, 6, 0, false);
        number("heat -1", 9, 3, -1, false);
        number("heat 0", 9, 3, 0, true);
        number("heat 1500", 9, 3, 1500, true);
        number("heat 1501", 9, 3, 1501, false);
    }

    private static void number(String what, int glass, int radius, int heat, boolean asTold) {
        edge.promise(2, due -> due.row(2, 2, 9, 3, 7, glass, radius, heat));
        if (asTold) {
            SoftGlass x = edge.takes(what, 0, y -> y.piece(2, 2, 3, 1));
            edge.due.ringIs("promise 2: " + what, 0, 0, glass, radius, heat);
            edge.is("it is one", x.many(0), 1);
        } else {
            edge.refused(what, Edge.OUTSIDE, y -> y.piece(2, 2, 3, 1));
            edge.refused(what + " of the last ring", Edge.OUTSIDE, y -> y.piece(2, 2, 0, 2));
        }
    }

    private static void pieceFull() {
        edge.promise(2, due -> pieces(due, 7));
        SoftGlass x = edge.takes("the eighth", 7, y -> y.piece(2, 2, 0, 1));
        edge.is("eight", x.many(0), 8);
        edge.promise(2, due -> pieces(due, 8));
        edge.refused("a ninth", Edge.FULL, y -> y.piece(2, 2, 0, 1));
    }

    private static void pieces(Due due, int n) {
        due.row(2, 2, 9, 3, 7, 9, 3, 1501);
        for (int k = 0; k < n; k++) {
            due.is("piece " + k, due.x.piece(2, 2, 0, 1), k);
        }
    }

    private static void pieceFirstOfSeveral() {
        edge.promise(2, due -> {
            pieces(due, 8);
            due.row(0, 0, 1);
        });
        edge.refused("no sheet and a lane", Edge.UNKNOWN, x -> x.piece(4, 3, -1, -1));
        edge.refused("a lane and NULL", Edge.OUTSIDE, x -> x.piece(Edge.NOTHING, 3, -1, -1));
        edge.refused("a lane and CAST", Edge.OUTSIDE, x -> x.piece(0, 3, -1, -1));
        edge.faulted("CAST and SIZE", Edge.CAST, x -> x.piece(0, 1, -1, -1));
        edge.faulted("NULL and SIZE", Edge.NULL, x -> x.piece(Edge.NOTHING, 1, -1, -1));
        edge.faulted("SIZE and INDEX", Edge.SIZE, x -> x.piece(2, 2, -1, -1));
        edge.faulted("CAST and INDEX", Edge.CAST, x -> x.piece(0, 1, -1, 1));
        edge.faulted("NULL and INDEX", Edge.NULL, x -> x.piece(Edge.NOTHING, 1, -1, 1));
        edge.faulted("INDEX and n 9", Edge.INDEX, x -> x.piece(2, 2, 0, 9));
        edge.faulted("INDEX and a number", Edge.INDEX, x -> x.piece(2, 2, 4, 1));
        edge.refused("n 0 and FULL", Edge.OUTSIDE, x -> x.piece(2, 2, 0, 0));
        edge.refused("a number and FULL", Edge.OUTSIDE, x -> x.piece(2, 2, 0, 2));
    }

    // ---- promises 3 and 4

    private static void ringBounds() {
        edge.promise(3);
        for (int p : new int[] {Edge.LEAST, -1, 4, 8, Edge.MOST}) {
            edge.refused("piece " + p, Edge.UNKNOWN, x -> x.ring(p, 0, 0));
        }
        for (int k : new int[] {Edge.LEAST, -1, 2, 8, Edge.MOST}) {
            edge.refused("ring " + k + " of two", Edge.UNKNOWN, x -> x.ring(Edge.SOFT, k, 0));
        }
        edge.tells("the last ring of two", 200, x -> x.ring(Edge.SOFT, 1, 0));
        edge.tells("the last ring of eight", 100, x -> x.ring(Edge.EIGHT, 7, 0));
        edge.refused("ring 8 of eight", Edge.UNKNOWN, x -> x.ring(Edge.EIGHT, 8, 0));
        for (int what : new int[] {Edge.LEAST, -1, 6, Edge.MOST}) {
            edge.refused("what " + what, Edge.OUTSIDE, x -> x.ring(Edge.SOFT, 0, what));
        }
        edge.tells("what 0", 300, x -> x.ring(Edge.SOFT, 0, 0));
        edge.tells("what 5", 16, x -> x.ring(Edge.STIFF, 0, 5));
        edge.refused("no piece and what", Edge.UNKNOWN, x -> x.ring(4, 0, 6));
        edge.refused("no ring and what", Edge.UNKNOWN, x -> x.ring(Edge.SOFT, 2, 6));
        edge.tells("a ring of what has fallen", 200, x -> x.ring(Edge.FALLEN, 0, 0));
        edge.promise(3, Edge::nothing);
        edge.refused("piece 0 of none", Edge.UNKNOWN, x -> x.ring(0, 0, 0));
    }

    private static void ringFacts() {
        int[][] softs = {{0, 0}, {499, 0}, {500, 0}, {599, 0}, {600, 1}, {699, 1}, {700, 2}, {799, 2}, {1499, 9}, {1500, 10}};
        for (int[] s : softs) {
            edge.promise(3, due -> due.piece(50, 5, s[0]));
            edge.tells("SOFT at " + s[0], s[1], x -> x.ring(0, 0, 4));
        }
        int[][] thicks = {{1, 1, 1}, {5, 5, 1}, {9, 5, 1}, {10, 5, 2}, {999, 99, 10}, {99, 99, 1}, {999, 1, 999}};
        for (int[] t : thicks) {
            edge.promise(3, due -> due.piece(t[0], t[1], 0));
            edge.tells("THICK of " + t[0] + " by " + t[1], t[2], x -> x.ring(0, 0, 3));
        }
        edge.promise(3);
        edge.tells("STRAIN of the last ring", 0, x -> x.ring(Edge.STIFF, 1, 5));
        edge.tells("STRAIN of the eighth ring", 0, x -> x.ring(Edge.EIGHT, 7, 5));
        edge.promise(3, due -> due.piece(50, 5, 610));
        edge.tells("STRAIN of a single ring", 0, x -> x.ring(0, 0, 5));
    }

    private static void ofPieceBounds() {
        edge.promise(4);
        for (int p : new int[] {Edge.LEAST, -1, 4, 8, Edge.MOST}) {
            edge.refused("piece " + p, Edge.UNKNOWN, x -> x.ofPiece(p, 0));
        }
        for (int what : new int[] {Edge.LEAST, -1, 6, Edge.MOST}) {
            edge.refused("what " + what, Edge.OUTSIDE, x -> x.ofPiece(Edge.SOFT, what));
        }
        edge.refused("no piece and what", Edge.UNKNOWN, x -> x.ofPiece(4, 6));
        edge.tells("what 0", 2, x -> x.ofPiece(Edge.SOFT, 0));
        edge.tells("what 5", 500, x -> x.ofPiece(Edge.SOFT, 5));
    }

    private static void ofPieceFacts() {
        edge.promise(4, due -> due.piece(1, 1, 0));
        int[] least = {1, 0, 0, 0, 0, 1};
        for (int what = 0; what < least.length; what++) {
            int w = what;
            edge.tells("the least piece, what " + what, least[what], x -> x.ofPiece(0, w));
        }
        edge.promise(4, due -> due.piece(Edge.rings(8, 999, 99, 1500)));
        int[] most = {8, 0, 0, 10, 0, 7992};
        for (int what = 0; what < most.length; what++) {
            int w = what;
            edge.tells("the greatest piece, what " + what, most[what], x -> x.ofPiece(0, w));
        }
        // 610 by 400 goes stiff with 517, 407 and 500, 407 with 388; the greatest may be the first or a later one
        edge.promise(4, due -> {
            due.piece(100, 10, 610, 100, 10, 400, 100, 10, 400);
            due.x.tenth(0, 1, 1);
            due.piece(100, 10, 400, 100, 10, 400, 100, 10, 610);
            due.x.tenth(1, 1, 1);
        });
        edge.tells("the greatest STRAIN is the first", 11, x -> x.ofPiece(0, 4));
        edge.tells("the second is 0, as neither ring was soft", 0, x -> x.ring(0, 1, 5));
        edge.tells("the greatest STRAIN is the last", 14, x -> x.ofPiece(1, 4));
        edge.promise(4, due -> due.piece(9, 3, 100, 9, 3, 700, 9, 3, 650));
        edge.tells("the greatest SOFT is in the middle", 2, x -> x.ofPiece(0, 3));
    }

    // ---- promise 5

    private static void tenthBounds() {
        edge.promise(5);
        for (int p : new int[] {Edge.LEAST, -1, 4, 8, Edge.MOST}) {
            edge.refused("piece " + p, Edge.UNKNOWN, x -> x.tenth(p, 1, 1));
        }
        for (int kind : new int[] {Edge.LEAST, -1, 4, Edge.MOST}) {
            edge.refused("kind " + kind, Edge.OUTSIDE, x -> x.tenth(Edge.SOFT, kind, 1));
        }
        for (int n : new int[] {Edge.LEAST, -1, 201, Edge.MOST}) {
            edge.refused("n " + n, Edge.OUTSIDE, x -> x.tenth(Edge.SOFT, 1, n));
        }
        edge.refused("no piece and kind", Edge.UNKNOWN, x -> x.tenth(4, 4, 1));
        edge.refused("kind of what has fallen", Edge.OUTSIDE, x -> x.tenth(Edge.FALLEN, 4, 0));
        edge.refused("n of what has fallen", Edge.OUTSIDE, x -> x.tenth(Edge.FALLEN, 0, 201));
        edge.refused("fallen", Edge.STATE, x -> x.tenth(Edge.FALLEN, 1, 1));
        edge.refused("fallen, for no tenth", Edge.STATE, x -> x.tenth(Edge.FALLEN, 0, 0));
        edge.tells("n 0: OFF as it is", 4, x -> x.tenth(Edge.SOFT, 0, 0));
        edge.takes("kind 0", 8, x -> x.tenth(Edge.SOFT, 0, 1));
        edge.takes("kind 3", 0, x -> x.tenth(Edge.SOFT, 3, 1));
        // rings so thick that the last one still cools behind 199 tenths
        edge.promise(5, due -> {
            due.piece(Edge.rings(8, 999, 1, 1500));
            due.piece(Edge.rings(8, 999, 1, 1500));
        });
        SoftGlass x = edge.takes("n 200", 0, y -> y.tenth(0, 1, 200));
        x.tenth(1, 1, 199);
        edge.is("behind 199 it is another", x.ring(0, 7, 2) < x.ring(1, 7, 2) ? 1 : 0, 1);
        x.tenth(1, 1, 1);
        for (int k = 0; k < 8; k++) {
            edge.is("n 200 is 199 and one, ring " + k, x.ring(0, k, 2), x.ring(1, k, 2));
        }
    }

    /** Turned once, three such rings hang 6 a tenth six times, then 5: 36 and 41. */
    private static void tenthFallen() {
        edge.promise(5, due -> {
            due.piece(Edge.rings(3, 500, 5, 1200));
            due.x.tenth(0, 1, 1);
        });
        SoftGlass x = edge.takes("36 off", 36, y -> y.tenth(0, 0, 6));
        edge.is("36 is no fall", x.ofPiece(0, 2), 0);
        edge.is("41 off", x.tenth(0, 0, 1), 41);
        edge.is("41 is a fall", x.ofPiece(0, 2), 1);
        edge.is("nothing more", x.tenth(0, 1, 1), Edge.STATE);
        SoftGlass y = edge.takes("as soon as it has fallen, nothing more", 41, z -> z.tenth(0, 0, 200));
        for (int k = 0; k < 3; k++) {
            edge.is("heat of ring " + k + " as it fell", y.ring(0, k, 2), x.ring(0, k, 2));
        }
        // eight such rings hang 9 a tenth: 36, turned 31, then 40 and 49
        edge.promise(5, due -> {
            due.piece(Edge.rings(8, 999, 1, 1500));
            due.x.tenth(0, 0, 4);
            due.x.tenth(0, 1, 1);
        });
        SoftGlass z = edge.takes("40 off", 40, w -> w.tenth(0, 0, 1));
        edge.is("40 is no fall", z.ofPiece(0, 2), 0);
        edge.is("it may be turned back", z.tenth(0, 1, 1), 35);
        edge.takes("49 off", 49, w -> w.tenth(0, 0, 2));
    }

    private static void tenthHeats() {
        edge.promise(5, due -> {
            due.piece(100, 10, 500);
            due.piece(100, 10, 500, 100, 10, 900);
            due.piece(100, 10, 500, 100, 10, 900, 100, 10, 500);
        });
        // 500 less 480 by 20 less 200 by 8
        heats("one ring: air and iron", 0, 500 - 24 - 25);
        // 400 by 8 more for ring 0; 900 less 880 by 20 less 400 by 8 for ring 1, which has no iron
        heats("two rings", 1, 500 - 24 - 25 + 50, 900 - 44 - 50);
        // the middle ring has one on each side; the last has neither iron nor a ring behind it
        heats("three rings, all as they were", 2, 500 - 24 - 25 + 50, 900 - 44 - 50 - 50, 500 - 24 + 50);
    }

    private static void heats(String what, int p, int... due) {
        SoftGlass x = edge.takes(what, 0, y -> y.tenth(p, 1, 1));
        for (int k = 0; k < due.length; k++) {
            edge.is(what + ", ring " + k, x.ring(p, k, 2), due[k]);
        }
    }

    private static void tenthQuotients() {
        edge.promise(5, due -> {
            due.piece(1, 1, 8);
            due.piece(1, 1, 10);
            due.piece(1, 1, 307);
            due.piece(999, 1, 100, 999, 1, 107);
            due.piece(999, 1, 107, 999, 1, 100);
            due.piece(1, 1, 0, 1, 1, 0);
            due.piece(11, 1, 0, 11, 1, 0);
        });
        heats("-12 by 11 is -1, 292 by 8 is 36", 0, 8 + 1 + 36);
        heats("-10 by 11 is 0, 290 by 8 is 36", 1, 10 + 36);
        heats("287 by 11 is 26, -7 by 8 is 0", 2, 307 - 26);
        heats("7 by 8 is 0, -7 by 8 is 0, 200 by 8 is 25", 3, 100 + 25, 107);
        heats("-7 by 8 is 0, 193 by 8 is 24", 4, 107 + 24, 100);
        heats("-20 by 11 is -1, 300 by 8 is 37", 5, 1 + 37, 1);
        heats("-20 by 21 is 0: heat 0 stays", 6, 37, 0);
    }

    private static void tenthMouth() {
        edge.promise(5, due -> {
            due.piece(1, 1, 1200, 1, 1, 1200);
            due.piece(100, 10, 1307, 100, 10, 1307);
            due.piece(1, 1, 0, 1, 1, 1500, 1, 1, 1500);
        });
        mouth("at 1200 it has no more", 0, 1200 - 112, 1200);
        mouth("-107 by 12 is -8, -1007 by 8 is -125", 1, 1307 - 8 - 125, 1307 - 8);
        // 1200 by 3, 300 by 8, 1500 by 8; -300 by 3, -1500 by 8; -300 by 3
        mouth("thick 1", 2, 400 + 37 + 187, 1500 - 100 - 187, 1500 - 100);
    }

    private static void mouth(String what, int p, int... due) {
        SoftGlass x = edge.takes(what, 0, y -> y.tenth(p, 3, 1));
        for (int k = 0; k < due.length; k++) {
            edge.is(what + ", ring " + k, x.ring(p, k, 2), due[k]);
        }
    }

    private static void tenthStrain() {
        edge.promise(5, due -> {
            due.piece(100, 10, 400, 100, 10, 600);
            due.piece(100, 10, 400, 100, 10, 599);
            due.piece(100, 10, 600, 100, 10, 400);
            due.piece(999, 1, 100, 999, 1, 600, 999, 1, 599);
            due.piece(999, 1, 300, 999, 1, 630, 999, 1, 640);
            due.piece(999, 1, 300, 999, 1, 641, 999, 1, 641);
            due.piece(999, 1, 698, 999, 1, 300);
            due.piece(999, 1, 697, 999, 1, 300);
        });
        // 400 - 19 + 25 - 12, 600 - 29 - 25
        strain("was of 600: 394 and 546", 0, 15, 0);
        strain("was of 599", 1, 0, 0);
        // 600 - 29 - 25 - 37, 400 - 19 + 25
        strain("the first was of 600: 509 and 406", 2, 10, 0);
        // 100 - 0 + 62 + 25, 600 - 0 - 62 - 0, 599 - 0 + 0
        strain("187, 538 and 599: cut", 3, 35, 6);
        // 300 - 0 + 41 + 0, 630 - 0 - 41 + 1, 640 - 0 - 1
        strain("639 is soft still, 590 is not", 4, 24, 0);
        // 300 - 0 + 42 + 0, 641 - 0 - 42 + 0, 641 - 0 - 0
        strain("342, 599 and 641", 5, 25, 0);
        // 698 - 0 - 49 - 49, 300 - 0 + 49; 697 - 0 - 49 - 49, 300 - 0 + 49
        strain("the first is of 600 still", 6, 0, 0);
        strain("599 and 349", 7, 25, 0);
    }

    private static void strain(String what, int p, int... due) {
        SoftGlass x = edge.takes(what, 0, y -> y.tenth(p, 1, 1));
        for (int k = 0; k < due.length; k++) {
            edge.is(what + ": strain " + k, x.ring(p, k, 5), due[k]);
        }
    }

    /** A thin ring beside a thick one goes stiff, is heated and goes stiff again: only more STRAIN is kept. */
    private static void tenthStrainAgain() {
        edge.promise(5, due -> {
            due.piece(999, 1, 500, 1, 1, 610);
            due.x.tenth(0, 1, 1);
        });
        SoftGlass x = edge.takes("the first STRAIN", 0, y -> y.tenth(0, 1, 0));
        edge.is("488 and 544", x.ring(0, 0, 5), 5);
        x.tenth(0, 1, 1);
        edge.is("none while stiff, however far apart", x.ring(0, 0, 5), 5);
        SoftGlass more = edge.takes("in the mouth for a tenth", 0, y -> y.tenth(0, 3, 1));
        edge.is("soft again, it keeps its STRAIN", more.ring(0, 0, 5), 5);
        more.tenth(0, 1, 2);
        edge.is("heat of ring 0", more.ring(0, 0, 2), 484);
        edge.is("heat of ring 1", more.ring(0, 1, 2), 576);
        edge.is("92 by 10 is more", more.ring(0, 0, 5), 9);
        SoftGlass less = edge.takes("in the mouth for three tenths", 0, y -> y.tenth(0, 3, 3));
        less.tenth(0, 1, 4);
        edge.is("heat of ring 0", less.ring(0, 0, 2), 511);
        edge.is("heat of ring 1", less.ring(0, 1, 2), 551);
        edge.is("40 by 10 is less", less.ring(0, 0, 5), 5);
    }

    private static void tenthOff() {
        edge.promise(5, due -> {
            due.piece(300, 20, 1100);
            due.piece(100, 10, 700);
            due.piece(100, 10, 620);
        });
        edge.takes("the greatest SOFT there is now: 957", 4, x -> x.tenth(0, 0, 1));
        // 700 - 34 - 50, 620 - 30 - 40
        edge.takes("of 700 it is of 616", 1, x -> x.tenth(1, 0, 1));
        edge.takes("of 620 it is of 550", 0, x -> x.tenth(2, 0, 1));
        // hanging it comes to 4, 7, 9, 10
        for (int kind = 1; kind < 4; kind++) {
            int k = kind;
            edge.promise(5, due -> hung(due, 1));
            edge.takes("4 less 5 is 0, kind " + kind, 0, x -> x.tenth(0, k, 1));
            edge.promise(5, due -> hung(due, 2));
            edge.takes("7 less 5, kind " + kind, 2, x -> x.tenth(0, k, 1));
            edge.promise(5, due -> hung(due, 4));
            edge.takes("10 less 5, kind " + kind, 5, x -> x.tenth(0, k, 1));
            edge.takes("10 less 5 less 5, kind " + kind, 0, x -> x.tenth(0, k, 2));
            edge.takes("0 at least, kind " + kind, 0, x -> x.tenth(0, k, 3));
        }
    }

    private static void hung(Due due, int tenths) {
        due.piece(300, 20, 1100);
        due.x.tenth(0, 0, tenths);
    }

    private static void tenthBlow() {
        // 1100 becomes 957 by thick 15, soft 4
        blow("grows by the SOFT behind the tenth", 24, 300, 20, 1100);
        blow("99 at most", 99, 999, 99, 1500);
        blow("98 and more", 99, 999, 98, 1500);
        // 1500 - 1480 / 20 - 150: soft 7
        blow("just 99", 99, 999, 92, 1500);
        blow("just short of 99", 98, 999, 91, 1500);
        blow("as great as its glass", 12, 12, 12, 1500);
        blow("not beyond its glass", 12, 12, 11, 1500);
        blow("its glass is more than 99", 99, 100, 98, 1500);
        blow("its glass is less than 99", 98, 98, 97, 1500);
        // 600 - 29 - 37
        blow("stiff behind the tenth", 10, 100, 10, 600);
        edge.promise(5, due -> {
            due.piece(999, 9, 1500, 999, 9, 1359, 999, 9, 1359);
            due.piece(999, 9, 1000, 999, 9, 1359, 999, 9, 1359);
        });
        SoftGlass x = edge.takes("of several the first", 0, y -> y.tenth(0, 2, 1));
        edge.is("ring 0 and ring 1 are alike soft", x.ring(0, 0, 4), x.ring(0, 1, 4));
        edge.is("ring 0 grows", x.ring(0, 0, 1), 17);
        edge.is("ring 1 does not", x.ring(0, 1, 1), 9);
        SoftGlass z = edge.takes("the first of the greatest", 0, y -> y.tenth(1, 2, 1));
        // 1359 - 1339 / 121 - 359 / 8 and 1359 - 1339 / 121: both of soft 8
        edge.is("the first ring is less soft", z.ring(1, 0, 1), 9);
        edge.is("the first of the two behind it grows", z.ring(1, 1, 1), 17);
        edge.is("the last does not", z.ring(1, 2, 1), 9);
    }

    private static void blow(String what, int radius, int... ring) {
        edge.promise(5, due -> due.piece(ring));
        SoftGlass x = edge.takes(what, 0, y -> y.tenth(0, 2, 1));
        edge.is(what + ": radius", x.ring(0, 0, 1), radius);
    }
}
