/** The boundary cases of promises 12 to 15: holds, span, odds, join; and of BITS and HANDS. */
public final class BitsEdgesTest {
    private static final Edge edge = new Edge("BitsEdgesTest");

    /** One of the four calls, with all but the piece and the bit as told. */
    private interface BitCall {
        long on(SoftGlass x, int p, int g, int r, int h);
    }

    public static void main(String[] args) {
        bitNumbers(12, (x, p, g, r, h) -> x.holds(p, g, r, h, 0));
        bitNumbers(13, (x, p, g, r, h) -> x.span(p, g, r, h, 2));
        bitNumbers(14, (x, p, g, r, h) -> x.odds(p, g, r, h, 0, 1, 0));
        bitNumbers(15, (x, p, g, r, h) -> x.join(p, g, r, h, 0));
        holdsTenths();
        holdsBySoft();
        holdsByHeat();
        holdsBehind();
        spanBounds();
        spanEnds();
        spanWithGap();
        oddsBounds();
        oddsShares();
        joinTenths();
        joinHeld();
        joinNotHeld();
        joinFull();
        edge.due.end();
    }

    /** Pieces and bits that are taken and refused by all four. */
    private static void bitNumbers(int promise, BitCall call) {
        edge.promise(promise);
        for (int p : new int[] {Edge.LEAST, -1, 4, 8, Edge.MOST}) {
            edge.refused("piece " + p, Edge.UNKNOWN, x -> call.on(x, p, 100, 10, 900));
        }
        int[][] wrong = {{0, 1, 900}, {-1, 1, 900}, {1000, 10, 900}, {Edge.MOST, 10, 900}, {100, 0, 900}, {100, -1, 900},
            {999, 100, 900}, {5, 6, 900}, {Edge.LEAST, Edge.LEAST, 900}, {100, 10, -1}, {100, 10, 1501}, {100, 10, Edge.MOST}};
        for (int[] b : wrong) {
            String what = b[0] + " " + b[1] + " " + b[2];
            edge.refused("bit " + what, Edge.OUTSIDE, x -> call.on(x, Edge.SOFT, b[0], b[1], b[2]));
            edge.refused("no piece and bit " + what, Edge.UNKNOWN, x -> call.on(x, 4, b[0], b[1], b[2]));
            edge.refused("fallen and bit " + what, Edge.OUTSIDE, x -> call.on(x, Edge.FALLEN, b[0], b[1], b[2]));
        }
        edge.refused("fallen", Edge.STATE, x -> call.on(x, Edge.FALLEN, 100, 10, 900));
        // the last ring is of heat 980; behind no tenth the rest of the bit does not matter
        int[][] taken = {{1, 1, 980, 1}, {999, 1, 980, 1}, {999, 99, 980, 1}, {5, 5, 980, 1}, {100, 10, 0, 0}, {100, 10, 1500, 0}};
        for (int[] b : taken) {
            SoftGlass x = edge.fresh();
            long got = call.on(x, Edge.SOFT, b[0], b[1], b[2]);
            edge.is("bit " + b[0] + " " + b[1] + " " + b[2], promise == 13 ? Math.min(got, 1) : got, b[3]);
        }
    }

    // ---- promise 12

    private static void holdsTenths() {
        edge.promise(12);
        for (int t : new int[] {Edge.LEAST, -1, 101, Edge.MOST}) {
            edge.refused("t " + t, Edge.OUTSIDE, x -> x.holds(Edge.SOFT, 100, 10, 980, t));
            edge.refused("t " + t + ", no piece", Edge.UNKNOWN, x -> x.holds(4, 100, 10, 980, t));
            edge.refused("t " + t + ", fallen", Edge.OUTSIDE, x -> x.holds(Edge.FALLEN, 100, 10, 980, t));
        }
        edge.tells("t 0", 1, x -> x.holds(Edge.SOFT, 100, 10, 980, 0));
        edge.tells("t 100", 0, x -> x.holds(Edge.SOFT, 100, 10, 980, 100));
        edge.tells("eight rings may be looked at", 1, x -> x.holds(Edge.EIGHT, 100, 10, 1000, 0));
        edge.promise(12, due -> due.piece(Edge.rings(8, 999, 1, 1500)));
        edge.tells("t 100, held still", 1, x -> x.holds(0, 999, 1, 1300, 100));
    }

    private static void holdsBySoft() {
        edge.promise(12, due -> {
            due.piece(100, 10, 700);
            due.piece(100, 10, 699);
            due.piece(100, 10, 100, 100, 10, 700);
            due.piece(100, 10, 700, 100, 10, 100);
        });
        edge.tells("both of 700", 1, x -> x.holds(0, 100, 10, 700, 0));
        edge.tells("the bit of 699", 0, x -> x.holds(0, 100, 10, 699, 0));
        edge.tells("the ring of 699", 0, x -> x.holds(1, 100, 10, 700, 0));
        edge.tells("the last ring of 700", 1, x -> x.holds(2, 100, 10, 700, 0));
        edge.tells("not the first of 700", 0, x -> x.holds(3, 100, 10, 700, 0));
    }

    private static void holdsByHeat() {
        edge.promise(12, due -> due.piece(100, 10, 1000));
        edge.tells("201 below", 0, x -> x.holds(0, 100, 10, 799, 0));
        edge.tells("200 below", 1, x -> x.holds(0, 100, 10, 800, 0));
        edge.tells("alike", 1, x -> x.holds(0, 100, 10, 1000, 0));
        edge.tells("200 above", 1, x -> x.holds(0, 100, 10, 1200, 0));
        edge.tells("201 above", 0, x -> x.holds(0, 100, 10, 1201, 0));
    }

    private static void holdsBehind() {
        // turned it is of 957 behind one tenth; bits of thick 10, by air alone: 1208, 1216 and 1217 less 59
        edge.promise(12, due -> due.piece(300, 20, 1100));
        edge.tells("1149 is 192 apart", 1, x -> x.holds(0, 100, 10, 1208, 1));
        edge.tells("1157 is 200 apart", 1, x -> x.holds(0, 100, 10, 1216, 1));
        edge.tells("1158 is 201 apart", 0, x -> x.holds(0, 100, 10, 1217, 1));
        // 1264 less 1244 by 11
        edge.tells("of thick 1 1151 is 194 apart", 1, x -> x.holds(0, 1, 1, 1264, 1));
        // 795 and 794 less 38
        edge.tells("757 is 200 apart", 1, x -> x.holds(0, 100, 10, 795, 1));
        edge.tells("756 is 201 apart", 0, x -> x.holds(0, 100, 10, 794, 1));
    }

    // ---- promise 13

    private static void spanBounds() {
        edge.promise(13);
        for (int what : new int[] {Edge.LEAST, -1, 3, Edge.MOST}) {
            edge.refused("what " + what, Edge.OUTSIDE, x -> x.span(Edge.SOFT, 100, 10, 980, what));
            edge.refused("what " + what + ", no piece", Edge.UNKNOWN, x -> x.span(4, 100, 10, 980, what));
            edge.refused("what " + what + ", fallen", Edge.OUTSIDE, x -> x.span(Edge.FALLEN, 100, 10, 980, what));
        }
        for (int what = 0; what < 3; what++) {
            int w = what;
            edge.tells("there is none, what " + what, what < 2 ? Edge.NONE : 0, x -> x.span(Edge.SOFT, 100, 10, 699, w));
            edge.tells("none of the stiff, what " + what, what < 2 ? Edge.NONE : 0, x -> x.span(Edge.STIFF, 100, 10, 700, w));
        }
    }

    private static void spanEnds() {
        edge.promise(13, due -> {
            due.piece(Edge.rings(8, 999, 1, 1500));
            due.piece(100, 10, 700);
        });
        int[] all = {0, 100, 101};
        int[] once = {0, 0, 1};
        for (int what = 0; what < 3; what++) {
            int w = what;
            edge.tells("all of 0 .. 100, what " + what, all[what], x -> x.span(0, 999, 1, 1300, w));
            edge.tells("just behind 0, what " + what, once[what], x -> x.span(1, 100, 10, 700, w));
        }
    }

    /**
     * The ring goes 1062, 1066, 1034, 985, 926, 865, and the bit 901, 863, 827, 792, 759, 727, 697: 203 and 207 apart
     * behind 1 and 2, of soft 1 behind 6.
     */
    private static void gap(Due due) {
        due.piece(179, 76, 1371, 563, 27, 1062);
    }

    private static void spanWithGap() {
        edge.promise(12, BitsEdgesTest::gap);
        int[] held = {1, 0, 0, 1, 1, 1, 0, 0};
        for (int t = 0; t < held.length; t++) {
            int tenths = t;
            edge.tells("behind " + t, held[t], x -> x.holds(0, 576, 42, 901, tenths));
        }
        edge.promise(13, BitsEdgesTest::gap);
        edge.tells("the first", 0, x -> x.span(0, 576, 42, 901, 0));
        edge.tells("the last", 5, x -> x.span(0, 576, 42, 901, 1));
        edge.tells("how many", 4, x -> x.span(0, 576, 42, 901, 2));
        edge.promise(13, due -> {
            gap(due);
            due.x.tenth(0, 1, 1);
        });
        edge.tells("a tenth later the first is 2", 2, x -> x.span(0, 576, 42, 863, 0));
        edge.tells("the last is 4", 4, x -> x.span(0, 576, 42, 863, 1));
        edge.tells("and there are three", 3, x -> x.span(0, 576, 42, 863, 2));
    }

    // ---- promise 14

    private static void oddsBounds() {
        edge.promise(14);
        for (int t : new int[] {Edge.LEAST, -1, 98, 100, Edge.MOST}) {
            edge.refused("t " + t, Edge.OUTSIDE, x -> x.odds(Edge.SOFT, 100, 10, 980, t, 1, 0));
        }
        for (int hand : new int[] {Edge.LEAST, -1, 0, 10000, Edge.MOST}) {
            edge.refused("hand " + hand, Edge.OUTSIDE, x -> x.odds(Edge.SOFT, 100, 10, 980, 0, hand, 0));
        }
        for (int which : new int[] {Edge.LEAST, -1, 2, Edge.MOST}) {
            edge.refused("which " + which, Edge.OUTSIDE, x -> x.odds(Edge.SOFT, 100, 10, 980, 0, 1, which));
        }
        edge.tells("t 0, hand 1: upper", 1, x -> x.odds(Edge.SOFT, 100, 10, 980, 0, 1, 0));
        edge.tells("t 0, hand 1: lower", 1, x -> x.odds(Edge.SOFT, 100, 10, 980, 0, 1, 1));
        edge.tells("t 97: upper", 0, x -> x.odds(Edge.SOFT, 100, 10, 980, 97, 1, 0));
        edge.tells("t 97: lower", 1, x -> x.odds(Edge.SOFT, 100, 10, 980, 97, 1, 1));
        edge.promise(14, due -> due.piece(Edge.rings(8, 999, 1, 1500)));
        edge.tells("t 97, held to 100: upper", 1, x -> x.odds(0, 999, 1, 1300, 97, 9999, 0));
        edge.tells("t 97, held to 100: lower", 1, x -> x.odds(0, 999, 1, 1300, 97, 9999, 1));
    }

    /** It holds behind 0, 3, 4, 5. */
    private static void oddsShares() {
        edge.promise(14, BitsEdgesTest::gap);
        int[][] shares = {{0, 1234, 1, 2}, {1, 1234, 3, 10}, {2, 1234, 3, 5}, {3, 1234, 9, 10}, {4, 1234, 7, 10},
            {5, 1234, 2, 5}, {6, 1234, 0, 1}, {0, 9, 1, 1}, {0, 10, 0, 1}, {0, 100, 0, 1}, {0, 1000, 1, 1}, {1, 9, 0, 1},
            {0, 9999, 1, 2}, {2, 9999, 3, 4}, {0, 9001, 1, 1}, {0, 9010, 9, 10}, {3, 9999, 3, 4}, {3, 9000, 0, 1},
            {0, 110, 0, 1}, {0, 7070, 1, 2}, {0, 3006, 1, 1}, {0, 36, 2, 3}};
        for (int[] s : shares) {
            String what = " behind " + s[0] + " of hand " + s[1];
            edge.tells("upper" + what, s[2], x -> x.odds(0, 576, 42, 901, s[0], s[1], 0));
            edge.tells("lower" + what, s[3], x -> x.odds(0, 576, 42, 901, s[0], s[1], 1));
        }
    }

    // ---- promise 15

    private static void joinTenths() {
        edge.promise(15);
        for (int t : new int[] {Edge.LEAST, -1, 101, Edge.MOST}) {
            edge.refused("t " + t, Edge.OUTSIDE, x -> x.join(Edge.SOFT, 100, 10, 980, t));
            edge.refused("t " + t + ", no piece", Edge.UNKNOWN, x -> x.join(4, 100, 10, 980, t));
            edge.refused("t " + t + ", fallen", Edge.OUTSIDE, x -> x.join(Edge.FALLEN, 100, 10, 980, t));
            edge.refused("t " + t + ", full", Edge.OUTSIDE, x -> x.join(Edge.EIGHT, 100, 10, 1000, t));
        }
        edge.promise(15, due -> {
            due.piece(Edge.rings(7, 999, 1, 1500));
            due.piece(Edge.rings(7, 999, 1, 1500));
        });
        SoftGlass x = edge.takes("t 100", 1, y -> y.join(0, 999, 1, 1300, 100));
        x.tenth(1, 1, 100);
        edge.is("eight rings", x.ofPiece(0, 0), 8);
        for (int k = 0; k < 7; k++) {
            edge.is("turned so long, ring " + k, x.ring(0, k, 2), x.ring(1, k, 2));
        }
        // one degree a tenth, as 1280 by 1009 is 1
        edge.is("the bit has cooled too", x.ring(0, 7, 2), 1200);
    }

    private static void joinHeld() {
        edge.promise(15);
        SoftGlass now = edge.takes("behind no tenth", 1, y -> y.join(Edge.SOFT, 999, 99, 1180, 0));
        edge.is("a ring more", now.ofPiece(Edge.SOFT, 0), 3);
        edge.due.ringIs("promise 15: the bit", Edge.SOFT, 2, 999, 99, 1180, 10, 6, 0);
        edge.is("the piece is not turned: heat", now.ring(Edge.SOFT, 1, 2), 980);
        edge.is("the piece is not turned: OFF", now.ofPiece(Edge.SOFT, 1), 4);
        edge.is("no more pieces", now.many(0), 4);
        SoftGlass then = edge.takes("behind a tenth", 1, y -> y.join(Edge.SOFT, 100, 10, 980, 1));
        edge.is("OFF 4 less 5", then.ofPiece(Edge.SOFT, 1), 0);
        // 980 less 960 by 20
        edge.is("the bit has cooled by air", then.ring(Edge.SOFT, 2, 2), 932);
        edge.is("STRAIN 0 to it", then.ring(Edge.SOFT, 1, 5), 0);
        // the strained one is heated by the mouth; its strain stays, the new one is 0
        edge.promise(15, due -> {
            due.piece(999, 1, 500, 1, 1, 610);
            due.x.tenth(0, 1, 1);
            due.x.tenth(0, 3, 1);
        });
        SoftGlass strained = edge.takes("to the strained", 1, y -> y.join(0, 100, 10, 750, 0));
        edge.is("its STRAIN", strained.ring(0, 0, 5), 5);
        edge.is("STRAIN 0 to the bit", strained.ring(0, 1, 5), 0);
        // the oven's end lets STRAINS grow that there are; the one to the bit is not there yet
        edge.promise(15, due -> {
            due.piece(100, 50, 300);
            due.x.oven(0, 560, 1);
            due.x.tenth(0, 3, 9);
        });
        SoftGlass baked = edge.takes("to one that was in an oven", 1, y -> y.join(0, 100, 10, 800, 0));
        edge.is("STRAIN 0 to the bit", baked.ring(0, 0, 5), 0);
        edge.is("the greatest STRAIN", baked.ofPiece(0, 4), 0);
    }

    private static void joinNotHeld() {
        edge.promise(15, due -> {
            due.piece(300, 20, 1100);
            due.x.tenth(0, 0, 2);
        });
        // 838 and OFF 7 then; turned of 739 and 657
        SoftGlass x = edge.takes("not held behind two tenths", 0, y -> y.join(0, 100, 10, 980, 2));
        edge.is("no ring more", x.ofPiece(0, 0), 1);
        edge.is("it was turned: heat", x.ring(0, 0, 2), 657);
        edge.is("it was turned: OFF", x.ofPiece(0, 1), 0);
        edge.tells("not held behind no tenth", 0, y -> y.join(0, 100, 10, 500, 0));
    }

    private static void joinFull() {
        edge.promise(15);
        edge.refused("eight rings", Edge.FULL, x -> x.join(Edge.EIGHT, 100, 10, 1000, 0));
        edge.refused("eight rings, behind five tenths", Edge.FULL, x -> x.join(Edge.EIGHT, 100, 10, 1000, 5));
        edge.refused("eight rings, not held", Edge.FULL, x -> x.join(Edge.EIGHT, 100, 10, 0, 0));
        edge.refused("eight rings and a bit", Edge.OUTSIDE, x -> x.join(Edge.EIGHT, 5, 6, 0, 0));
        edge.promise(15, due -> due.piece(Edge.rings(7, 100, 10, 1000)));
        SoftGlass x = edge.takes("seven rings", 1, y -> y.join(0, 100, 10, 1000, 0));
        edge.is("eight", x.ofPiece(0, 0), 8);
        edge.is("there are eight", x.join(0, 100, 10, 1000, 0), Edge.FULL);
        edge.promise(15, due -> {
            due.piece(Edge.rings(8, 999, 1, 1500));
            due.x.tenth(0, 0, 200);
        });
        edge.refused("fallen and full", Edge.STATE, y -> y.join(0, 100, 10, 1000, 0));
    }
}
