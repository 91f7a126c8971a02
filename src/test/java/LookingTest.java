import java.util.Random;

/** Calls that only tell or look: whatever was asked of the object ahead of them, each answers as on a new one. */
public final class LookingTest {
    private static final Due due = new Due("LookingTest");
    private static final Edge.Call[] CALLS = {
        x -> x.look(0, 0, -1, 0, 0, 2), x -> x.look(0, 0, 3, 20, 1, 1), x -> x.look(3, 1, 0, 5, 7, 1), x -> x.look(1, 0, 6, 9, 1, 5),
        x -> x.quickest(1, 7, 0), x -> x.quickest(1, 3, 1), x -> x.quickest(1, 2, 0),
        x -> x.holds(0, 100, 10, 1050, 2), x -> x.holds(0, 9, 9, 700, 0), x -> x.holds(3, 999, 1, 1100, 3),
        x -> x.span(0, 100, 10, 1050, 1), x -> x.span(3, 999, 1, 1100, 2), x -> x.span(0, 9, 9, 0, 0),
        x -> x.odds(0, 100, 10, 1050, 1, 1234, 0), x -> x.odds(3, 999, 1, 1100, 2, 4321, 1),
        x -> x.miss(0), x -> x.miss(2), x -> x.nearest(0, 3, -1), x -> x.nearest(3, 2, 1), x -> x.nearest(1, 1, 0),
        x -> x.spoils(0, 0, 6, 1), x -> x.spoils(3, 0, 20, 0), x -> x.order(7, -1), x -> x.order(7, 1), x -> x.order(5, 0),
        x -> x.morning(14, 0), x -> x.morning(20, 1)};

    public static void main(String[] args) {
        long[] alone = new long[CALLS.length];
        for (int k = 0; k < CALLS.length; k++) {
            due.fresh();
            Edge.workshop(due);
            alone[k] = CALLS[k].on(due.x);
        }
        Random random = new Random(11);
        for (int run = 0; run < 5; run++) {
            due.fresh();
            Edge.workshop(due);
            String before = State.of(due.x);
            for (int n = 0; n < 60; n++) {
                int k = random.nextInt(CALLS.length);
                due.is("call " + k + " behind others", CALLS[k].on(due.x), alone[k]);
            }
            due.is("all is as it was", State.of(due.x).equals(before) ? 1 : 0, 1);
        }
        due.end();
    }
}
