/** Promises 28 to 33: tell, call, as, trace, fault, many. */
public final class PartsTest {
    private static final Due due = new Due("PartsTest");
    private static int trace;

    public static void main(String[] args) {
        telling();
        calling();
        taking();
        manies();
        due.end();
    }

    private static void marks(int... bodies) {
        for (int body : bodies) {
            trace = 31 * trace + body;
        }
        due.is("trace", due.x.trace(), trace);
    }

    private static void telling() {
        due.fresh();
        trace = 0;
        due.recipe("w3;t4;b5;m6;u7;o8;j2;b99");
        due.is("no item comes to no body", due.x.tell(0, 8), SoftGlass.UNKNOWN);
        due.is("item -1", due.x.tell(0, -1), SoftGlass.UNKNOWN);
        due.is("no recipe", due.x.tell(1, 0), SoftGlass.UNKNOWN);
        marks();
        due.is("w", due.x.tell(0, 0), 3);
        marks(1);
        due.is("t", due.x.tell(0, 1), 104);
        marks(2, 1);
        due.is("b", due.x.tell(0, 2), 110);
        marks(3, 2, 1, 1);
        due.is("m", due.x.tell(0, 3), 1106);
        marks(6, 2, 1);
        due.is("u is of kind 1", due.x.tell(0, 4), 107);
        marks(2, 1);
        due.is("o is of kind 3", due.x.tell(0, 5), 1108);
        marks(6, 2, 1);
        due.is("j is of kind 0", due.x.tell(0, 6), 2);
        marks(1);
        due.is("b99", due.x.tell(0, 7), 298);
        marks(3, 2, 1, 1);
    }

    private static void calling() {
        due.fresh();
        trace = 0;
        due.recipe("w3;t4;b5;m6;u7;o8;j2");
        int[] answers = {0, 1, 80, 3, 4, 5, 6};
        for (int k = 0; k < answers.length; k++) {
            due.is("call " + k, due.x.call(0, k), answers[k]);
            marks(k == 2 ? 5 : 4);
        }
        due.is("no item", due.x.call(0, 7), SoftGlass.UNKNOWN);
        due.is("item -1", due.x.call(0, -1), SoftGlass.UNKNOWN);
        due.is("no recipe", due.x.call(-1, 0), SoftGlass.UNKNOWN);
        marks();
    }

    private static void taking() {
        due.fresh();
        trace = 0;
        due.recipe("w3;t4;b5;m6;u7;o8;j2");
        int[] kinds = {0, 1, 2, 3, 1, 3, 0};
        for (int k = 0; k < kinds.length; k++) {
            for (int kind = 0; kind < 4; kind++) {
                boolean isOne = kind == 0 || kind == kinds[k] || kind == 1 && kinds[k] > 1;
                due.is("item " + k + " as " + kind, due.x.as(0, k, kind), isOne ? 1 : Due.CAST);
                due.is("fault", due.x.fault(), isOne ? 0 : 2);
            }
        }
        due.is("no item comes ahead of kind", due.x.as(0, 7, 4), SoftGlass.UNKNOWN);
        due.is("item -1", due.x.as(0, -1, 0), SoftGlass.UNKNOWN);
        due.is("no recipe", due.x.as(1, 0, 0), SoftGlass.UNKNOWN);
        due.is("kind 4", due.x.as(0, 0, 4), SoftGlass.OUTSIDE);
        due.is("kind -1", due.x.as(0, 0, -1), SoftGlass.OUTSIDE);
        marks();
    }

    private static void manies() {
        due.fresh();
        due.piece(9, 3, 7);
        due.recipe("w1");
        due.recipe("w2");
        due.x.job(1, 1, 1);
        due.x.job(1, 1, 1);
        due.x.job(1, 1, 1);
        due.aim(5, 5, 5, 5);
        for (int what = 0; what < 4; what++) {
            due.is("many " + what, due.x.many(what), what + 1);
        }
        due.is("many -1", due.x.many(-1), SoftGlass.OUTSIDE);
        due.is("many 4", due.x.many(4), SoftGlass.OUTSIDE);
    }
}
