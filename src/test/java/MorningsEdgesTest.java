/** The boundary cases of promises 20 to 22: job, order, morning. */
public final class MorningsEdgesTest {
    private static final Edge edge = new Edge("MorningsEdgesTest");

    public static void main(String[] args) {
        jobNumbers();
        jobFull();
        orderBounds();
        orderOfNone();
        orderTimes();
        orderOfSeveral();
        orderOfSeven();
        morningBounds();
        morningTimes();
        morningOfSeveral();
        edge.due.end();
    }

    /** Jobs as mouth, bench, worth. */
    private static void jobs(Due due, int... numbers) {
        for (int k = 0; k < numbers.length / 3; k++) {
            due.is("job " + k, due.x.job(numbers[3 * k], numbers[3 * k + 1], numbers[3 * k + 2]), k);
        }
    }

    // ---- promise 20

    private static void jobNumbers() {
        edge.promise(20);
        for (int n : new int[] {Edge.LEAST, -1, 100, Edge.MOST}) {
            edge.refused("mouth " + n, Edge.OUTSIDE, x -> x.job(n, 5, 5));
            edge.refused("bench " + n, Edge.OUTSIDE, x -> x.job(5, n, 5));
            edge.refused("worth " + n, Edge.OUTSIDE, x -> x.job(5, 5, n));
        }
        edge.promise(20, Edge::nothing);
        int[][] taken = {{0, 5, 5}, {99, 5, 5}, {5, 0, 5}, {5, 99, 5}, {5, 5, 0}, {5, 5, 99}, {0, 0, 0}, {99, 99, 99}};
        for (int[] j : taken) {
            SoftGlass x = edge.takes("job " + j[0] + " " + j[1] + " " + j[2], 0, y -> y.job(j[0], j[1], j[2]));
            edge.is("one job", x.many(2), 1);
            edge.is("its tenths", x.order(1, -1), j[0] + j[1]);
            edge.is("its worth", x.morning(999, 1), j[2]);
        }
    }

    private static void jobFull() {
        edge.promise(20, due -> jobs(due, new int[3 * 6]));
        SoftGlass x = edge.takes("the seventh", 6, y -> y.job(0, 0, 0));
        edge.is("seven", x.many(2), 7);
        edge.promise(20, due -> jobs(due, new int[3 * 7]));
        edge.refused("an eighth", Edge.FULL, y -> y.job(1, 1, 1));
        edge.refused("an eighth that is wrong", Edge.OUTSIDE, y -> y.job(100, 1, 1));
    }

    // ---- promise 21

    private static void orderBounds() {
        edge.promise(21);
        for (int set : new int[] {Edge.LEAST, -1, 8, 9, 64, 128, Edge.MOST}) {
            edge.refused("set " + set, Edge.OUTSIDE, x -> x.order(set, -1));
            edge.refused("set " + set + " and k", Edge.OUTSIDE, x -> x.order(set, 7));
        }
        for (int k : new int[] {Edge.LEAST, -2, 7, Edge.MOST}) {
            edge.refused("k " + k, Edge.UNKNOWN, x -> x.order(7, k));
            edge.refused("k " + k + " of none", Edge.UNKNOWN, x -> x.order(0, k));
        }
        edge.tells("set 7", 19, x -> x.order(7, -1));
        edge.tells("the third job of three", 1, x -> x.order(7, 2));
        edge.tells("a fourth", Edge.NONE, x -> x.order(7, 3));
        edge.tells("a seventh", Edge.NONE, x -> x.order(7, 6));
        edge.promise(21, Edge::nothing);
        edge.refused("set 1 of no jobs", Edge.OUTSIDE, x -> x.order(1, -1));
        edge.promise(21, due -> jobs(due, new int[3 * 7]));
        edge.tells("set 127 of seven", 0, x -> x.order(127, -1));
        edge.refused("set 128 of seven", Edge.OUTSIDE, x -> x.order(128, -1));
    }

    private static void orderOfNone() {
        edge.promise(21);
        edge.tells("no jobs are done with at 0", 0, x -> x.order(0, -1));
        for (int k = 0; k < 7; k++) {
            int place = k;
            edge.tells("no jobs, k " + k, Edge.NONE, x -> x.order(0, place));
        }
        for (int j = 0; j < 3; j++) {
            int job = j;
            edge.tells("the set of job " + j, j, x -> x.order(1 << job, 0));
            edge.tells("it has one alone", Edge.NONE, x -> x.order(1 << job, 1));
        }
        edge.tells("job 0 alone", 12, x -> x.order(1, -1));
        edge.tells("job 1 alone", 10, x -> x.order(2, -1));
        edge.tells("job 2 alone", 10, x -> x.order(4, -1));
    }

    private static void orderTimes() {
        // out of the mouth at 2 and 10: the bench is free at 5
        row("the bench waits for the mouth", 13, new int[] {0, 1}, 2, 3, 0, 8, 3, 0);
        // out of the mouth at 2 and 5: the bench is free at 11
        row("the mouth does not wait for the bench", 12, new int[] {0, 1}, 2, 9, 0, 3, 1, 0);
        row("no tenth at the mouth goes first", 10, new int[] {1, 0}, 4, 5, 0, 0, 5, 0);
        row("no tenth at the bench goes last", 9, new int[] {1, 0}, 5, 0, 0, 1, 8, 0);
        row("nothing to do", 0, new int[] {0, 1}, 0, 0, 0, 0, 0, 0);
        row("the greatest", 297, new int[] {0, 1}, 99, 99, 0, 99, 99, 0);
    }

    /** The order of all jobs. */
    private static void row(String what, int end, int[] due, int... numbers) {
        edge.promise(21, d -> jobs(d, numbers));
        int all = (1 << numbers.length / 3) - 1;
        edge.tells(what, end, x -> x.order(all, -1));
        for (int k = 0; k < 7; k++) {
            int place = k;
            edge.tells(what + ": job " + k, k < due.length ? due[k] : Edge.NONE, x -> x.order(all, place));
        }
    }

    private static void orderOfSeveral() {
        row("alike, the first as a row", 20, new int[] {0, 1, 2}, 5, 5, 0, 5, 5, 0, 5, 5, 0);
        // 0 1 2, 0 2 1 and others end at 13: the bench is never free between
        row("the first may stand anywhere", 13, new int[] {0, 1, 2}, 1, 4, 0, 1, 4, 0, 1, 4, 0);
        // 1 must be the first; 0 and 2 behind it in either order
        row("the first as a row behind the one that must be ahead", 13, new int[] {1, 0, 2}, 3, 4, 0, 1, 4, 0, 3, 4, 0);
        // 1 must be the last
        row("the first as a row ahead of the one that must be last", 13, new int[] {0, 2, 1}, 4, 3, 0, 4, 1, 0, 4, 3, 0);
    }

    private static void orderOfSeven() {
        int[] greatest = new int[21];
        java.util.Arrays.fill(greatest, 99);
        row("seven of the greatest", 8 * 99, new int[] {0, 1, 2, 3, 4, 5, 6}, greatest);
        int[] nothing = new int[21];
        row("seven of nothing", 0, new int[] {0, 1, 2, 3, 4, 5, 6}, nothing);
        // each bench is as long as the next mouth, from the last job to the first
        row("seven of which just one row is the quickest", 36, new int[] {6, 5, 4, 3, 2, 1, 0},
            7, 8, 0, 6, 7, 0, 5, 6, 0, 4, 5, 0, 3, 4, 0, 2, 3, 0, 1, 2, 0);
    }

    // ---- promise 22

    private static void morningBounds() {
        edge.promise(22);
        for (int t : new int[] {Edge.LEAST, -1, 1000, Edge.MOST}) {
            edge.refused("t " + t, Edge.OUTSIDE, x -> x.morning(t, 0));
        }
        for (int what : new int[] {Edge.LEAST, -1, 2, Edge.MOST}) {
            edge.refused("what " + what, Edge.OUTSIDE, x -> x.morning(0, what));
        }
        edge.tells("t 0: the set", 0, x -> x.morning(0, 0));
        edge.tells("t 0: its worth", 0, x -> x.morning(0, 1));
        edge.tells("t 999: the set", 7, x -> x.morning(999, 0));
        edge.tells("t 999: its worth", 17, x -> x.morning(999, 1));
        edge.promise(22, Edge::nothing);
        edge.tells("no jobs: the set", 0, x -> x.morning(999, 0));
        edge.tells("no jobs: its worth", 0, x -> x.morning(999, 1));
    }

    /** The workshop's jobs: 3 and 9 of worth 5, 8 and 2 of worth 7, 5 and 5 of worth 5. */
    private static void morningTimes() {
        edge.promise(22);
        // alone 12, 10, 10; 0 and 1: 14; 0 and 2: 17; 2 and 1: 15; 0, 2 and 1: 19
        int[][] times = {{9, 0, 0}, {10, 2, 7}, {13, 2, 7}, {14, 3, 12}, {18, 3, 12}, {19, 7, 17}};
        for (int[] t : times) {
            edge.tells("the set by " + t[0], t[1], x -> x.morning(t[0], 0));
            edge.tells("its worth by " + t[0], t[2], x -> x.morning(t[0], 1));
        }
        edge.promise(22, due -> jobs(due, 0, 0, 3, 0, 1, 4));
        edge.tells("what takes nothing is done by 0", 1, x -> x.morning(0, 0));
        edge.tells("its worth", 3, x -> x.morning(0, 1));
        edge.tells("all by 1", 3, x -> x.morning(1, 0));
        edge.promise(22, due -> {
            int[] greatest = new int[21];
            java.util.Arrays.fill(greatest, 99);
            jobs(due, greatest);
        });
        edge.tells("six of the greatest by 791", 63, x -> x.morning(791, 0));
        edge.tells("seven of the greatest by 792", 127, x -> x.morning(792, 0));
        edge.tells("the greatest worth", 7 * 99, x -> x.morning(792, 1));
    }

    private static void morningOfSeveral() {
        edge.promise(22, due -> jobs(due, 5, 5, 4, 5, 5, 4, 5, 5, 4));
        edge.tells("alike, the least as a number", 1, x -> x.morning(10, 0));
        edge.tells("two alike, the least as a number", 3, x -> x.morning(15, 0));
        edge.promise(22, due -> jobs(due, 1, 1, 2, 1, 1, 3, 9, 9, 5));
        edge.tells("5 by jobs 0 and 1 or by job 2: the least", 3, x -> x.morning(18, 0));
        edge.promise(22, due -> jobs(due, 1, 1, 0, 1, 1, 3, 1, 1, 0));
        edge.tells("what is worth nothing is left out", 2, x -> x.morning(999, 0));
        edge.promise(22, due -> jobs(due, 1, 1, 0));
        edge.tells("none is the least", 0, x -> x.morning(999, 0));
    }
}
