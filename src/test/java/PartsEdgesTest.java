/** The boundary cases of promises 28 to 33: tell, call, as, trace, fault, many. */
public final class PartsEdgesTest {
    private static final Edge edge = new Edge("PartsEdgesTest");
    /** An item of each letter; what kind it is of. */
    private static final String ITEMS = "w3;t4;b5;m6;u7;o8;j2";
    private static final int[] KINDS = {0, 1, 2, 3, 1, 3, 0};

    public static void main(String[] args) {
        tellBounds();
        tellBodies();
        tellNumbers();
        callBounds();
        callBodies();
        asBounds();
        asKinds();
        traceWraps();
        faultOfLatest();
        faultKept();
        manyBounds();
        manyCounts();
        lastCall();
        edge.due.end();
    }

    private static void items(Due due) {
        due.recipe(ITEMS);
        due.recipe("b1");
    }

    /** What TRACE is behind these bodies, 0 at first. */
    private static int traced(int... bodies) {
        int trace = 0;
        for (int body : bodies) {
            trace = 31 * trace + body;
        }
        return trace;
    }

    private static void tellBounds() {
        edge.promise(28);
        for (int q : new int[] {Edge.LEAST, -1, 2, 6, Edge.MOST}) {
            edge.refused("recipe " + q, Edge.UNKNOWN, x -> x.tell(q, 0));
        }
        for (int k : new int[] {Edge.LEAST, -1, 7, 8, Edge.MOST}) {
            edge.refused("item " + k + " of seven", Edge.UNKNOWN, x -> x.tell(Edge.LONG, k));
        }
        edge.refused("item 1 of one", Edge.UNKNOWN, x -> x.tell(Edge.SHORT, 1));
    }

    private static void tellBodies() {
        edge.promise(28, PartsEdgesTest::items);
        int[] told = {3, 104, 5 + 100 + 5, 6 + 100 + 1000, 107, 8 + 100 + 1000, 2};
        int[][] bodies = {{1}, {2, 1}, {3, 2, 1, 1}, {6, 2, 1}, {2, 1}, {6, 2, 1}, {1}};
        for (int k = 0; k < told.length; k++) {
            int item = k;
            SoftGlass x = edge.takes("item " + k, told[k], y -> y.tell(0, item));
            edge.is("TRACE behind item " + k, x.trace(), traced(bodies[k]));
        }
    }

    private static void tellNumbers() {
        String[] texts = {"w1", "w99", "t99", "b99", "m99", "u0", "u9", "o9", "j0", "j7"};
        int[] told = {1, 99, 199, 298, 1199, 100, 109, 1109, 0, 7};
        for (int k = 0; k < texts.length; k++) {
            String text = texts[k];
            edge.promise(28, due -> due.recipe(text));
            edge.takes(text, told[k], x -> x.tell(0, 0));
        }
    }

    private static void callBounds() {
        edge.promise(29);
        for (int q : new int[] {Edge.LEAST, -1, 2, 6, Edge.MOST}) {
            edge.refused("recipe " + q, Edge.UNKNOWN, x -> x.call(q, 0));
        }
        for (int k : new int[] {Edge.LEAST, -1, 7, 8, Edge.MOST}) {
            edge.refused("item " + k + " of seven", Edge.UNKNOWN, x -> x.call(Edge.LONG, k));
        }
    }

    private static void callBodies() {
        edge.promise(29, PartsEdgesTest::items);
        for (int k = 0; k < KINDS.length; k++) {
            int item = k;
            boolean blow = KINDS[k] == 2;
            SoftGlass x = edge.takes("item " + k, blow ? 80 : k, y -> y.call(0, item));
            edge.is("TRACE behind item " + k, x.trace(), traced(blow ? 5 : 4));
        }
        edge.takes("a blow at place 0", 80, y -> y.call(1, 0));
        edge.promise(29, due -> due.recipe("w1;w1;w1;w1;w1;w1;w1;w1"));
        edge.takes("the last place of eight", 7, y -> y.call(0, 7));
        edge.refused("behind the last place of eight", Edge.UNKNOWN, y -> y.call(0, 8));
    }

    private static void asBounds() {
        edge.promise(30);
        for (int q : new int[] {Edge.LEAST, -1, 2, 6, Edge.MOST}) {
            edge.refused("recipe " + q, Edge.UNKNOWN, x -> x.as(q, 0, 0));
            edge.refused("recipe " + q + " and kind", Edge.UNKNOWN, x -> x.as(q, 0, 4));
        }
        for (int k : new int[] {Edge.LEAST, -1, 7, 8, Edge.MOST}) {
            edge.refused("item " + k + " of seven", Edge.UNKNOWN, x -> x.as(Edge.LONG, k, 0));
            edge.refused("item " + k + " and kind", Edge.UNKNOWN, x -> x.as(Edge.LONG, k, 4));
        }
        for (int kind : new int[] {Edge.LEAST, -1, 4, Edge.MOST}) {
            edge.refused("kind " + kind, Edge.OUTSIDE, x -> x.as(Edge.LONG, 0, kind));
        }
    }

    private static void asKinds() {
        edge.promise(30, PartsEdgesTest::items);
        // of kinds 0 .. 3: a wait is one of kind 0 alone, every other is a turn and a wait too
        int[][] ones = {{1, 0, 0, 0}, {1, 1, 0, 0}, {1, 1, 1, 0}, {1, 1, 0, 1}};
        for (int k = 0; k < KINDS.length; k++) {
            for (int kind = 0; kind < 4; kind++) {
                int item = k;
                int told = kind;
                String what = "item " + k + " as one of kind " + kind;
                if (ones[KINDS[k]][kind] == 1) {
                    edge.tells(what, 1, x -> x.as(0, item, told));
                } else {
                    edge.faulted(what, Edge.CAST, x -> x.as(0, item, told));
                }
            }
        }
    }

    private static void traceWraps() {
        edge.promise(31, PartsEdgesTest::items);
        edge.tells("0 at first", 0, x -> x.trace());
        SoftGlass x = edge.fresh();
        int[] traces = {1, 32, 993, 30784, 954305, 29583456, 917087137, -1635069824};
        for (int trace : traces) {
            x.tell(0, 0);
            edge.is("one more body", x.trace(), trace);
        }
        edge.is("asking leaves it", x.trace(), traces[traces.length - 1]);
        x.as(0, 0, 0);
        edge.is("no body begins", x.trace(), traces[traces.length - 1]);
    }

    /** fault() behind each call that names FAULTS is tested with its promise; here one call goes behind another. */
    private static void faultOfLatest() {
        edge.promise(32);
        edge.is("0 ahead of any", new SoftGlass().fault(), 0);
        SoftGlass x = edge.fresh();
        int[] faults = {Edge.NULL, Edge.CAST, Edge.INDEX, Edge.SIZE};
        for (int fault : faults) {
            edge.is("a fault", fault(x, fault), -10 - fault);
            edge.is("is told", x.fault(), fault);
            edge.is("and told again", x.fault(), fault);
        }
        for (int fault : faults) {
            fault(x, fault);
            x.put(2, 0, 300);
            edge.is("the latest came to none", x.fault(), 0);
            fault(x, fault);
            x.put(4, 0, 300);
            edge.is("the latest was refused", x.fault(), 0);
            fault(x, fault);
            x.recipe(2, 2, 0, 1);
            edge.is("the latest had a first fault", x.fault(), 0);
        }
    }

    private static int fault(SoftGlass x, int fault) {
        switch (fault) {
            case Edge.NULL:
                return x.put(Edge.NOTHING, 0, 0);
            case Edge.CAST:
                return x.as(Edge.LONG, 0, 1);
            case Edge.INDEX:
                return x.copy(0, -1, 0, 0, 0);
            default:
                return x.sheet(0, 0, -1);
        }
    }

    /** Calls that name none leave it, whether they are taken or refused. */
    private static void faultKept() {
        edge.promise(32);
        SoftGlass x = edge.fresh();
        fault(x, Edge.INDEX);
        long[] answers = {x.ring(0, 0, 0), x.ofPiece(0, 0), x.tenth(0, 1, 1), x.item(0, 0), x.make(0, 1),
            x.look(0, 1, -1, 0, 0, 0), x.oven(Edge.STIFF, 400, 1), x.quickest(Edge.STIFF, 99, 0), x.holds(0, 9, 9, 9, 0),
            x.span(0, 9, 9, 9, 2), x.odds(0, 9, 9, 9, 0, 1, 0), x.join(0, 9, 9, 9, 0), x.miss(0), x.nearest(0, 1, 0),
            x.spoils(0, 1, 0, 0), x.job(1, 1, 1), x.order(0, -1), x.morning(0, 0), x.lose(Edge.NOTHING), x.tell(0, 0),
            x.call(0, 0), x.many(0)};
        for (long answer : answers) {
            edge.is("it was taken", answer >= 0 ? 1 : 0, 1);
        }
        x.trace();
        edge.is("calls that are taken", x.fault(), Edge.INDEX);
        answers = new long[] {x.ring(9, 0, 0), x.ofPiece(9, 0), x.tenth(9, 1, 1), x.item(9, 0), x.make(9, 1),
            x.look(9, 1, -1, 0, 0, 0), x.oven(9, 400, 1), x.quickest(9, 99, 0), x.holds(9, 9, 9, 9, 0), x.span(9, 9, 9, 9, 2),
            x.odds(9, 9, 9, 9, 0, 1, 0), x.join(9, 9, 9, 9, 0), x.miss(9), x.nearest(9, 1, 0), x.spoils(9, 1, 0, 0),
            x.job(-1, 1, 1), x.order(-1, -1), x.morning(-1, 0), x.lose(9), x.tell(9, 0), x.call(9, 0), x.many(9)};
        for (long answer : answers) {
            edge.is("it was refused", answer < 0 ? 1 : 0, 1);
        }
        edge.is("calls that are refused", x.fault(), Edge.INDEX);
    }

    private static void manyBounds() {
        edge.promise(33);
        for (int what : new int[] {Edge.LEAST, -1, 4, Edge.MOST}) {
            edge.refused("what " + what, Edge.OUTSIDE, x -> x.many(what));
        }
        int[] counts = {4, 2, 3, 2};
        for (int what = 0; what < 4; what++) {
            int w = what;
            edge.tells("what " + what, counts[what], x -> x.many(w));
        }
    }

    private static void manyCounts() {
        edge.promise(33, due -> {
            for (int k = 0; k < 8; k++) {
                due.piece(9, 3, 7);
                due.recipe("w1");
                due.x.job(1, 1, 1);
            }
            due.aim(1, 2, 3, 4, 5, 6, 7, 8);
        });
        int[] most = {8, 6, 7, 8};
        for (int what = 0; what < 4; what++) {
            int w = what;
            edge.tells("the most of " + what, most[what], x -> x.many(w));
        }
    }

    /** An object is used for 512 calls: the last of them is answered like the first. */
    private static void lastCall() {
        edge.promise(33, due -> due.x.job(1, 1, 1));
        SoftGlass x = edge.fresh();
        for (int call = 2; call < 512; call++) {
            edge.is("call " + call, x.many(2), 1);
        }
        edge.is("the 512th call", x.job(1, 1, 1), 1);
    }
}
