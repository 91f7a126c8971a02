import java.util.Random;

/** Promises 20 to 22: job, order, morning; rows and sets also against all that there are. */
public final class MorningsTest {
    private static final Due due = new Due("MorningsTest");
    private static int[][] jobs;
    private static int[] bestRow;
    private static int bestEnd;

    public static void main(String[] args) {
        jobsAndRefusals();
        orders();
        mornings();
        againstAllRows();
        due.end();
    }

    private static void jobsAndRefusals() {
        due.fresh();
        int[][] outside = {{-1, 0, 0}, {100, 0, 0}, {0, -1, 0}, {0, 100, 0}, {0, 0, -1}, {0, 0, 100}};
        for (int[] o : outside) {
            due.is("job outside", due.x.job(o[0], o[1], o[2]), SoftGlass.OUTSIDE);
        }
        due.is("none", due.x.many(2), 0);
        for (int k = 0; k < 7; k++) {
            due.is("job " + k, due.x.job(99, 99 * (k % 2), 0), k);
        }
        due.is("OUTSIDE comes ahead of FULL", due.x.job(100, 0, 0), SoftGlass.OUTSIDE);
        due.is("an eighth", due.x.job(0, 0, 0), SoftGlass.FULL);
        due.is("seven", due.x.many(2), 7);
        due.is("set 128", due.x.order(128, -1), SoftGlass.OUTSIDE);
        due.is("set below 0 comes ahead of k", due.x.order(-1, 9), SoftGlass.OUTSIDE);
        due.is("least set", due.x.order(Integer.MIN_VALUE, 0), SoftGlass.OUTSIDE);
        due.is("k -2", due.x.order(127, -2), SoftGlass.UNKNOWN);
        due.is("k 7", due.x.order(127, 7), SoftGlass.UNKNOWN);
        due.is("k 6", due.x.order(126, 6), SoftGlass.NONE);
        due.is("t -1", due.x.morning(-1, 0), SoftGlass.OUTSIDE);
        due.is("t 1000", due.x.morning(1000, 0), SoftGlass.OUTSIDE);
        due.is("what -1", due.x.morning(0, -1), SoftGlass.OUTSIDE);
        due.is("what 2", due.x.morning(999, 2), SoftGlass.OUTSIDE);
        due.is("worth 0 is left out", due.x.morning(999, 0), 0);
    }

    private static void orders() {
        due.fresh();
        due.is("no set of none", due.x.order(0, -1), 0);
        due.is("its first", due.x.order(0, 0), SoftGlass.NONE);
        due.x.job(8, 2, 7);
        due.x.job(3, 9, 5);
        due.is("one", due.x.order(1, -1), 10);
        due.is("both, the second first", due.x.order(3, -1), 14);
        due.is("first", due.x.order(3, 0), 1);
        due.is("second", due.x.order(3, 1), 0);
        due.is("third", due.x.order(3, 2), SoftGlass.NONE);
        due.is("the set 2 has job 1", due.x.order(2, 0), 1);
        due.is("a bit of none", due.x.order(4, -1), SoftGlass.OUTSIDE);
    }

    private static void mornings() {
        due.fresh();
        due.is("no jobs", due.x.morning(0, 0), 0);
        due.is("no worth", due.x.morning(999, 1), 0);
        due.x.job(3, 9, 5);
        due.x.job(8, 2, 7);
        due.x.job(0, 0, 1);
        due.x.job(5, 5, 5);
        due.is("T 9: just the empty job", due.x.morning(9, 0), 4);
        due.is("T 10", due.x.morning(10, 0), 6);
        due.is("its worth", due.x.morning(10, 1), 8);
        due.is("T 14", due.x.morning(14, 0), 7);
        due.is("T 18: of several the least", due.x.morning(18, 0), 7);
        due.is("T 19", due.x.morning(19, 0), 15);
        due.is("its worth", due.x.morning(19, 1), 18);
    }

    private static void againstAllRows() {
        Random random = new Random(7);
        for (int run = 0; run < 60; run++) {
            due.fresh();
            int n = 1 + random.nextInt(7);
            int size = run % 3 == 0 ? 4 : run % 3 == 1 ? 12 : 100;
            jobs = new int[n][3];
            for (int k = 0; k < n; k++) {
                jobs[k] = new int[] {random.nextInt(size), random.nextInt(size), random.nextInt(Math.min(size, 9))};
                due.is("job", due.x.job(jobs[k][0], jobs[k][1], jobs[k][2]), k);
            }
            int[] ends = new int[1 << n];
            for (int set = 0; set < 1 << n; set++) {
                bestEnd = Integer.MAX_VALUE;
                allRows(set, new int[Integer.bitCount(set)], 0, 0, 0);
                ends[set] = bestEnd;
                if (set % 5 == 0 || set == (1 << n) - 1) {
                    orderIs(set);
                }
            }
            for (int t = 0; t < 1000; t += 1 + random.nextInt(40)) {
                morningIs(t, ends);
            }
        }
    }

    private static void allRows(int rest, int[] row, int at, int mouth, int bench) {
        if (rest == 0) {
            if (bench < bestEnd) {
                bestEnd = bench;
                bestRow = row.clone();
            }
            return;
        }
        for (int k = 0; k < jobs.length; k++) {
            if ((rest >> k & 1) == 1) {
                row[at] = k;
                int out = mouth + jobs[k][0];
                allRows(rest & ~(1 << k), row, at + 1, out, Math.max(out, bench) + jobs[k][1]);
            }
        }
    }

    private static void orderIs(int set) {
        due.is("end of set " + set, due.x.order(set, -1), bestEnd);
        for (int k = 0; k < 7; k++) {
            due.is("row of set " + set, due.x.order(set, k), k < bestRow.length ? bestRow[k] : SoftGlass.NONE);
        }
    }

    private static void morningIs(int t, int[] ends) {
        int best = 0;
        int most = 0;
        for (int set = 0; set < ends.length; set++) {
            int worth = 0;
            for (int k = 0; k < jobs.length; k++) {
                worth += (set >> k & 1) * jobs[k][2];
            }
            if (ends[set] <= t && worth > most) {
                most = worth;
                best = set;
            }
        }
        due.is("morning of " + t, due.x.morning(t, 0), best);
        due.is("its worth", due.x.morning(t, 1), most);
    }
}
