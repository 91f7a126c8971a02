import java.util.Set;

/**
 * Tests of boundary cases: each is one call on a new object with a scene set on it, and says its promise's number.
 * A call that is refused, faults or only tells must leave all else as it was.
 */
final class Edge {
    static final int UNKNOWN = SoftGlass.UNKNOWN, OUTSIDE = SoftGlass.OUTSIDE, STATE = SoftGlass.STATE;
    static final int FULL = SoftGlass.FULL, NONE = SoftGlass.NONE;
    static final int NULL = 1, CAST = 2, INDEX = 3, SIZE = 4;
    static final int LEAST = Integer.MIN_VALUE, MOST = Integer.MAX_VALUE;
    /** What the workshop holds, by number. */
    static final int SOFT = 0, STIFF = 1, FALLEN = 2, EIGHT = 3, LONG = 0, SHORT = 1, NOTHING = 3;
    private static final Set<Integer> NAMING_FAULTS = Set.of(2, 6, 16, 23, 25, 26, 27, 30);
    private static final Set<Integer> ANSWERING_LONGS = Set.of(14, 26);

    interface Scene {
        void set(Due due);
    }

    interface Call {
        long on(SoftGlass x);
    }

    final Due due;
    private int promise;
    private Scene scene;

    Edge(String test) {
        due = new Due(test);
    }

    /** What follows is of this promise, each case in the workshop. */
    void promise(int number) {
        promise(number, Edge::workshop);
    }

    /** What follows is of this promise, each case in this scene. */
    void promise(int number, Scene set) {
        promise = number;
        scene = set;
    }

    /** The scene on a new object. */
    SoftGlass fresh() {
        due.fresh();
        scene.set(due);
        return due.x;
    }

    void is(String what, long got, long want) {
        due.is("promise " + promise + ": " + what, got, want);
    }

    /** Refused: the answer (LOST where a long is answered); fault() is 0, if the call names FAULTS; nothing changes. */
    void refused(String what, int answer, Call call) {
        SoftGlass x = fresh();
        int behind = arm(x, SIZE);
        unchanged(what, answersLong() ? SoftGlass.LOST : answer, namesFaults() ? 0 : behind, call);
    }

    /** Comes to a FAULT: -10 less it (LOST where a long is answered); fault() tells it; nothing else changes. */
    void faulted(String what, int fault, Call call) {
        SoftGlass x = fresh();
        arm(x, fault == SIZE ? NULL : SIZE);
        unchanged(what, answersLong() ? SoftGlass.LOST : -10 - fault, fault, call);
    }

    /** Only tells: the answer; nothing changes (but fault() becomes 0, if the call names FAULTS). */
    void tells(String what, long answer, Call call) {
        SoftGlass x = fresh();
        int behind = arm(x, SIZE);
        unchanged(what, answer, namesFaults() ? 0 : behind, call);
    }

    /** Is taken: the answer, and fault() as for one that tells; what has changed is left on the object to be asked for. */
    SoftGlass takes(String what, long answer, Call call) {
        SoftGlass x = fresh();
        int behind = arm(x, SIZE);
        is(what, call.on(x), answer);
        is("fault() behind " + what, x.fault(), namesFaults() ? 0 : behind);
        return x;
    }

    private boolean namesFaults() {
        return NAMING_FAULTS.contains(promise);
    }

    private boolean answersLong() {
        return ANSWERING_LONGS.contains(promise);
    }

    /** Lets a call fault that changes nothing else, so that it shows what the tested call makes of fault(). */
    private static int arm(SoftGlass x, int fault) {
        if (fault == SIZE) {
            x.sheet(0, 0, -1);
        } else {
            x.put(NOTHING, 0, 0);
        }
        return x.fault();
    }

    private void unchanged(String what, long answer, int fault, Call call) {
        SoftGlass x = due.x;
        int armed = x.fault();
        String before = State.of(x);
        arm(x, armed);
        is(what, call.on(x), answer);
        is("fault() behind " + what, x.fault(), fault);
        String after = State.of(x);
        is("as it was behind " + what, before.equals(after) ? 1 : 0, 1);
        if (!before.equals(after)) {
            System.out.println("was:\n" + before + "is:\n" + after);
        }
    }

    static void nothing(Due due) {
        due.is("a new object", due.x.many(0), 0);
    }

    /** Something of everything: pieces SOFT, STIFF, FALLEN and of EIGHT rings, recipes, an aim, jobs, a trace, sheets. */
    static void workshop(Due due) {
        due.piece(300, 20, 1100, 200, 10, 1000);
        due.x.tenth(SOFT, 0, 1);
        due.piece(100, 10, 400, 100, 10, 610);
        due.x.tenth(STIFF, 1, 1);
        due.piece(200, 1, 1100, 100, 1, 1500);
        due.x.tenth(FALLEN, 0, 200);
        due.piece(rings(8, 100, 10, 1000));
        due.recipe("w2;t3;b4;m5;u3;o6;j1");
        due.recipe("b3");
        due.aim(25, 12);
        due.x.job(3, 9, 5);
        due.x.job(8, 2, 7);
        due.x.job(5, 5, 5);
        due.x.tell(SHORT, 0);
        due.row(2, 2, 300, 20, 1100, 7);
    }

    /** The numbers of n rings alike. */
    static int[] rings(int n, int glass, int radius, int heat) {
        int[] numbers = new int[3 * n];
        for (int k = 0; k < n; k++) {
            numbers[3 * k] = glass;
            numbers[3 * k + 1] = radius;
            numbers[3 * k + 2] = heat;
        }
        return numbers;
    }
}
