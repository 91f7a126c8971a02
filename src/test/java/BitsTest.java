/** Promises 12 to 15: holds, span, odds, join. */
public final class BitsTest {
    private static final Due due = new Due("BitsTest");

    public static void main(String[] args) {
        holding();
        spans();
        shares();
        joining();
        joinFull();
        refusals();
        due.end();
    }

    private static void holding() {
        due.fresh();
        // turned it is of 1100, 957, 838, 739, 657; the bit (thick 10) of 1050, 999, 951, 905, 861
        int p = due.piece(300, 20, 1100);
        int[] held = {1, 1, 1, 1, 0};
        for (int t = 0; t < held.length; t++) {
            due.is("holds behind " + t, due.x.holds(p, 100, 10, 1050, t), held[t]);
        }
        due.is("holds behind 100", due.x.holds(p, 100, 10, 1050, 100), 0);
        due.is("200 apart", due.x.holds(p, 100, 10, 1300, 0), 1);
        due.is("201 apart", due.x.holds(p, 100, 10, 1301, 0), 0);
        due.is("200 below", due.x.holds(p, 100, 10, 900, 0), 1);
        due.is("201 below", due.x.holds(p, 100, 10, 899, 0), 0);
        due.is("a fraction apart behind 2 (838, 951)", due.x.holds(p, 100, 10, 1050, 2), 1);
        int soft = due.piece(100, 10, 700);
        due.is("both of soft 2", due.x.holds(soft, 100, 10, 700, 0), 1);
        due.is("the bit of soft 1", due.x.holds(soft, 100, 10, 699, 0), 0);
        int stiff = due.piece(100, 10, 699);
        due.is("the ring of soft 1", due.x.holds(stiff, 100, 10, 700, 0), 0);
        int last = due.piece(100, 10, 100, 100, 10, 800);
        due.is("the last ring counts", due.x.holds(last, 100, 10, 800, 0), 1);
        due.is("only looked at", due.x.ring(p, 0, 2), 1100);
        int thin = due.piece(999, 1, 1200, 999, 1, 1200, 999, 1, 1200);
        // without an iron: 1010 - 990 / 11 = 920
        due.is("a bit cools by its thick", due.x.holds(thin, 1, 1, 1010, 1), 0);
        due.is("a thick one less", due.x.holds(thin, 999, 1, 1010, 1), 1);
    }

    private static void spans() {
        due.fresh();
        int p = due.piece(300, 20, 1100);
        due.is("first", due.x.span(p, 100, 10, 1050, 0), 0);
        due.is("last", due.x.span(p, 100, 10, 1050, 1), 3);
        due.is("how many", due.x.span(p, 100, 10, 1050, 2), 4);
        due.is("never: first", due.x.span(p, 20, 10, 300, 0), SoftGlass.NONE);
        due.is("never: last", due.x.span(p, 20, 10, 300, 1), SoftGlass.NONE);
        due.is("never: how many", due.x.span(p, 20, 10, 300, 2), 0);
        int thick = due.piece(999, 1, 1100, 999, 1, 1100, 999, 1, 1100, 999, 1, 1100);
        int first = due.x.span(thick, 1, 1, 1500, 0);
        int last = due.x.span(thick, 1, 1, 1500, 1);
        due.is("at first too hot", first > 0 ? 1 : 0, 1);
        due.is("ahead of it", due.x.holds(thick, 1, 1, 1500, first - 1), 0);
        due.is("the first", due.x.holds(thick, 1, 1, 1500, first), 1);
        due.is("the last", due.x.holds(thick, 1, 1, 1500, last), 1);
        due.is("behind it", due.x.holds(thick, 1, 1, 1500, last + 1), 0);
        due.is("how many", due.x.span(thick, 1, 1, 1500, 2), last - first + 1);
        int eight = due.piece(999, 1, 1400, 999, 1, 1400, 999, 1, 1400, 999, 1, 1400, 999, 1, 1400, 999, 1, 1400, 999, 1, 1400,
            999, 1, 1400);
        int tenths = 0;
        int end = SoftGlass.NONE;
        for (int t = 0; t <= 100; t++) {
            if (due.x.holds(eight, 999, 1, 1200, t) == 1) {
                tenths++;
                end = t;
            }
        }
        due.is("how many of 0 .. 100", due.x.span(eight, 999, 1, 1200, 2), tenths);
        due.is("the last of 0 .. 100", due.x.span(eight, 999, 1, 1200, 1), end);
    }

    private static void shares() {
        due.fresh();
        int p = due.piece(300, 20, 1100);
        // it holds behind 0, 1, 2, 3 and not behind 4, 5, 6
        odds(p, 0, 1234, 1, 1);
        odds(p, 1, 1234, 9, 10);
        odds(p, 2, 1234, 7, 10);
        odds(p, 3, 1234, 2, 5);
        odds(p, 4, 1234, 0, 1);
        odds(p, 1, 9999, 3, 4);
        odds(p, 3, 9000, 0, 1);
        odds(p, 3, 9003, 1, 4);
        odds(p, 2, 100, 0, 1);
        odds(p, 2, 10, 1, 1);
        odds(p, 97, 1, 0, 1);
        due.is("only looked at", due.x.ring(p, 0, 2), 1100);
    }

    private static void odds(int p, int t, int hand, int upper, int lower) {
        due.is("odds behind " + t + " of " + hand, due.x.odds(p, 100, 10, 1050, t, hand, 0), upper);
        due.is("lower number", due.x.odds(p, 100, 10, 1050, t, hand, 1), lower);
    }

    private static void joining() {
        due.fresh();
        int p = due.piece(300, 20, 1100);
        due.x.tenth(p, 0, 1);
        due.is("off", due.x.ofPiece(p, 1), 4);
        // 957 then, and 838 behind one tenth more; the bit 1050 and 999
        due.is("join", due.x.join(p, 100, 10, 1050, 1), 1);
        due.is("turned so long", due.x.ofPiece(p, 1), 0);
        due.is("a ring more", due.x.ofPiece(p, 0), 2);
        due.ringIs("ring 0", p, 0, 300, 20, 838, 15, 3, 0);
        due.ringIs("the bit", p, 1, 100, 10, 999, 10, 4, 0);
        due.is("glass", due.x.ofPiece(p, 5), 400);
        due.is("behind 0 it is as it was", due.x.join(p, 50, 5, 1100, 0), 1);
        due.is("heat", due.x.ring(p, 2, 2), 1100);
        due.is("ring 1 has not cooled", due.x.ring(p, 1, 2), 999);
        due.is("it does not hold", due.x.join(p, 50, 5, 400, 1), 0);
        due.is("no ring more", due.x.ofPiece(p, 0), 3);
        due.is("but it was turned: 1100 - 1080 / 20 - 101 / 8", due.x.ring(p, 2, 2), 1100 - 54 - 12);
        int q = due.piece(100, 10, 610, 100, 10, 1200);
        int strained = due.piece(100, 10, 610, 100, 10, 400);
        due.x.tenth(strained, 1, 1);
        due.is("strain", due.x.ring(strained, 0, 5), 11);
        due.is("join to a hot last ring", due.x.join(q, 100, 10, 1200, 0), 1);
        due.is("strain 0 to the bit", due.x.ring(q, 1, 5), 0);
        due.x.tenth(q, 1, 60);
        due.is("stiff: strain to the bit", due.x.ring(q, 1, 5) > 0 ? 1 : 0, 1);
    }

    private static void joinFull() {
        due.fresh();
        int[] eight = new int[24];
        for (int k = 0; k < 8; k++) {
            eight[3 * k] = 100;
            eight[3 * k + 1] = 10;
            eight[3 * k + 2] = 1000;
        }
        int p = due.piece(eight);
        due.is("full", due.x.join(p, 100, 10, 1000, 5), SoftGlass.FULL);
        due.is("not turned", due.x.ring(p, 3, 2), 1000);
        due.is("full, though it would not hold", due.x.join(p, 100, 10, 0, 0), SoftGlass.FULL);
        due.is("OUTSIDE comes ahead of FULL", due.x.join(p, 100, 10, 0, 101), SoftGlass.OUTSIDE);
        due.is("it may be looked at", due.x.holds(p, 100, 10, 1000, 0), 1);
        for (int k = 0; k < 8; k++) {
            eight[3 * k + 2] = 1500;
        }
        int fell = due.piece(eight);
        due.x.tenth(fell, 0, 20);
        due.is("fallen", due.x.ofPiece(fell, 2), 1);
        due.is("fallen comes ahead of FULL", due.x.join(fell, 100, 10, 1000, 0), SoftGlass.STATE);
    }

    private static void refusals() {
        due.fresh();
        int p = due.piece(300, 20, 1100);
        due.is("no piece", due.x.holds(1, 0, 0, -1, 101), SoftGlass.UNKNOWN);
        due.is("no piece", due.x.span(-1, 0, 0, -1, 3), SoftGlass.UNKNOWN);
        due.is("no piece", due.x.join(1, 0, 0, -1, 101), SoftGlass.UNKNOWN);
        due.is("no piece", due.x.odds(1, 5, 5, 0, 0, 1, 0), SoftGlass.LOST);
        int[][] wrong = {{0, 1, 0}, {1000, 1, 0}, {5, 0, 0}, {999, 100, 0}, {5, 6, 0}, {5, 5, -1}, {5, 5, 1501}};
        for (int[] bit : wrong) {
            due.is("holds: a number", due.x.holds(p, bit[0], bit[1], bit[2], 0), SoftGlass.OUTSIDE);
            due.is("span: a number", due.x.span(p, bit[0], bit[1], bit[2], 0), SoftGlass.OUTSIDE);
            due.is("join: a number", due.x.join(p, bit[0], bit[1], bit[2], 0), SoftGlass.OUTSIDE);
            due.is("odds: a number", due.x.odds(p, bit[0], bit[1], bit[2], 0, 1, 0), SoftGlass.LOST);
        }
        int[] outside = {-1, 101};
        for (int t : outside) {
            due.is("holds: t", due.x.holds(p, 5, 5, 0, t), SoftGlass.OUTSIDE);
            due.is("join: t", due.x.join(p, 5, 5, 0, t), SoftGlass.OUTSIDE);
        }
        due.is("span: what -1", due.x.span(p, 5, 5, 0, -1), SoftGlass.OUTSIDE);
        due.is("span: what 3", due.x.span(p, 5, 5, 0, 3), SoftGlass.OUTSIDE);
        int[][] lost = {{-1, 1, 0}, {98, 1, 0}, {0, 0, 0}, {0, 10000, 0}, {0, -1, 0}, {0, 1, 2}, {0, 1, -1}};
        for (int[] o : lost) {
            due.is("odds: t, hand, which", due.x.odds(p, 5, 5, 0, o[0], o[1], o[2]), SoftGlass.LOST);
        }
        due.is("nothing changed", due.x.ring(p, 0, 2), 1100);
        int fell = due.piece(999, 1, 1500, 999, 1, 1500, 999, 1, 1500, 999, 1, 1500, 999, 1, 1500);
        due.x.tenth(fell, 0, 6);
        due.is("holds: fallen", due.x.holds(fell, 5, 5, 0, 0), SoftGlass.STATE);
        due.is("span: fallen", due.x.span(fell, 5, 5, 0, 0), SoftGlass.STATE);
        due.is("join: fallen", due.x.join(fell, 5, 5, 0, 0), SoftGlass.STATE);
        due.is("join: OUTSIDE comes ahead of fallen", due.x.join(fell, 5, 6, 0, 0), SoftGlass.OUTSIDE);
        due.is("odds: fallen", due.x.odds(fell, 5, 5, 0, 0, 1, 0), SoftGlass.LOST);
    }
}
