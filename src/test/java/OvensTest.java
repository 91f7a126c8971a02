/** Promises 10 and 11: oven, quickest. */
public final class OvensTest {
    private static final Due due = new Due("OvensTest");

    public static void main(String[] args) {
        ovens();
        quickestOfStrain();
        quickestOfGreatStrain();
        quickestOfOneRing();
        refusals();
        due.end();
    }

    /** A piece of strain 16 between its two rings. */
    private static int strained() {
        int p = due.piece(100, 10, 400, 100, 10, 610);
        due.x.tenth(p, 1, 1);
        due.is("strain", due.x.ring(p, 0, 5), 16);
        return p;
    }

    private static void ovens() {
        due.fresh();
        int p = strained();
        // 16 * 90 / 200 = 7: 9; 9 * 90 / 200 = 4: 5; 5 * 90 / 200 = 2: 3; and 80 / 40 at the end
        due.is("480 for 3 hours", due.x.oven(p, 480, 3), 5);
        due.is("heat", due.x.ring(p, 0, 2), 20);
        due.is("heat of the last", due.x.ring(p, 1, 2), 20);
        due.is("strain", due.x.ring(p, 0, 5), 5);
        due.is("the last ring has none", due.x.ring(p, 1, 5), 0);
        due.is("once more for 0 hours", due.x.oven(p, 560, 0), 9);
        due.is("439 adds nothing", due.x.oven(p, 439, 0), 9);
        // 9 * 10 / 200 = 0
        due.is("400 takes nothing of 9", due.x.oven(p, 400, 40), 9);
        int q = strained();
        // 16 * 170 / 200 = 13: 3; 3 * 170 / 200 = 2: 1; then nothing; and 4 at the end
        due.is("560 for 40 hours", due.x.oven(q, 560, 40), 5);
        int r = due.piece(100, 10, 300, 100, 10, 300, 100, 10, 300);
        due.is("strains that were 0 grow too", due.x.oven(r, 520, 5), 3);
        due.is("the first", due.x.ring(r, 0, 5), 3);
        due.is("the second", due.x.ring(r, 1, 5), 3);
        int s = due.piece(100, 10, 300);
        due.is("one ring has no strain", due.x.oven(s, 560, 1), 0);
        due.is("its heat", due.x.ring(s, 0, 2), 20);
        due.x.tenth(s, 3, 3);
        int t = due.piece(500, 5, 700, 500, 5, 700);
        due.x.tenth(t, 0, 3);
        int off = due.x.ofPiece(t, 1);
        due.x.tenth(t, 0, 20);
        due.is("stiff by now", due.x.ofPiece(t, 3), 0);
        due.is("it hung", off > 0 ? 1 : 0, 1);
        int before = due.x.ofPiece(t, 1);
        due.x.oven(t, 400, 1);
        due.is("an oven leaves OFF", due.x.ofPiece(t, 1), before);
    }

    private static void quickestOfStrain() {
        due.fresh();
        int p = strained();
        due.is("16 is there", due.x.quickest(p, 16, 0), 0);
        due.is("of several the least t", due.x.quickest(p, 16, 1), 400);
        // in one hour: 400 takes 0; 420 2; 440 4 and gives 1; 480 7 and 2; 520 10 and 3; 540 12 and 3; 560 13 and 4
        due.is("15 in an hour", due.x.quickest(p, 15, 0), 1);
        due.is("by 420", due.x.quickest(p, 15, 1), 420);
        due.is("7 in an hour", due.x.quickest(p, 7, 0), 1);
        due.is("by 540, as 560 gives 4", due.x.quickest(p, 7, 1), 540);
        due.is("6 in two hours", due.x.quickest(p, 6, 0), 2);
        for (int x = 0; x < 16; x++) {
            int hours = due.x.quickest(p, x, 0);
            int t = due.x.quickest(p, x, 1);
            due.is("both or none", (hours == SoftGlass.NONE) == (t == SoftGlass.NONE) ? 1 : 0, 1);
            if (hours >= 0) {
                int q = x < 7 ? due.piece(100, 10, 400, 100, 10, 610) : -1;
                if (q >= 0) {
                    due.x.tenth(q, 1, 1);
                    due.is("that oven does it", due.x.oven(q, t, hours) <= x ? 1 : 0, 1);
                }
            }
        }
        due.is("0 is never come to", due.x.quickest(p, 0, 0), SoftGlass.NONE);
        due.is("nor has a t", due.x.quickest(p, 0, 1), SoftGlass.NONE);
        due.is("the piece is as it was", due.x.ring(p, 0, 5), 16);
        due.is("so is its heat", due.x.ring(p, 1, 2), 555);
    }

    private static void quickestOfGreatStrain() {
        due.fresh();
        // strain 0 at first, and 4 more by each oven of 560 for 0 hours: 100
        int p = due.piece(100, 10, 20, 100, 10, 20);
        for (int k = 1; k <= 25; k++) {
            due.is("4 more", due.x.oven(p, 560, 0), 4 * k);
        }
        // in an hour: 560 leaves 15 and gives 4; 540 leaves 25 and gives 3
        due.is("19 in an hour", due.x.quickest(p, 19, 0), 1);
        due.is("by 560", due.x.quickest(p, 19, 1), 560);
        due.is("28 in an hour by 540, as that is the least t", due.x.quickest(p, 28, 1), 540);
        // 480 goes no lower than 2 and gives 2; 460 no lower than 2 and gives 1; 500 no lower than 1 and gives 2
        due.is("3 by 500, as 460 takes longer", due.x.quickest(p, 3, 1), 500);
        due.is("2 by none", due.x.quickest(p, 2, 0), SoftGlass.NONE);
    }

    private static void quickestOfOneRing() {
        due.fresh();
        int p = due.piece(100, 10, 300);
        due.is("no strain", due.x.quickest(p, 0, 0), 0);
        due.is("t", due.x.quickest(p, 0, 1), 400);
    }

    private static void refusals() {
        due.fresh();
        int p = due.piece(100, 10, 599, 100, 10, 599);
        int soft = due.piece(100, 10, 100, 100, 10, 600);
        due.is("no piece", due.x.oven(2, 399, 41), SoftGlass.UNKNOWN);
        due.is("t 399", due.x.oven(p, 399, 0), SoftGlass.OUTSIDE);
        due.is("t 561", due.x.oven(p, 561, 0), SoftGlass.OUTSIDE);
        due.is("n -1", due.x.oven(p, 400, -1), SoftGlass.OUTSIDE);
        due.is("n 41", due.x.oven(p, 400, 41), SoftGlass.OUTSIDE);
        due.is("soft, OUTSIDE comes first", due.x.oven(soft, 400, 41), SoftGlass.OUTSIDE);
        due.is("soft", due.x.oven(soft, 400, 0), SoftGlass.STATE);
        due.is("quickest: no piece", due.x.quickest(-1, 100, 2), SoftGlass.UNKNOWN);
        due.is("quickest: x -1", due.x.quickest(p, -1, 0), SoftGlass.OUTSIDE);
        due.is("quickest: x 100", due.x.quickest(p, 100, 0), SoftGlass.OUTSIDE);
        due.is("quickest: what 2", due.x.quickest(p, 99, 2), SoftGlass.OUTSIDE);
        due.is("quickest: what -1", due.x.quickest(soft, 99, -1), SoftGlass.OUTSIDE);
        due.is("quickest: soft", due.x.quickest(soft, 99, 0), SoftGlass.STATE);
        due.is("none of them baked it", due.x.ring(p, 0, 2), 599);
        int fell = due.piece(999, 1, 1500, 999, 1, 1500, 999, 1, 1500, 999, 1, 1500, 999, 1, 1500);
        due.x.tenth(fell, 0, 200);
        due.is("it lies as it fell, soft", due.x.ofPiece(fell, 3) > 0 ? 1 : 0, 1);
        due.is("fallen", due.x.oven(fell, 400, 0), SoftGlass.STATE);
        due.is("quickest: fallen", due.x.quickest(fell, 99, 0), SoftGlass.STATE);
    }
}
