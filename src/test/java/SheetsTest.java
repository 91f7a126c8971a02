/** Promises 23 to 27 and 32: sheet, lose, put, cell, copy, and the faults of all calls that name some. */
public final class SheetsTest {
    private static final Due due = new Due("SheetsTest");

    public static void main(String[] args) {
        sheets();
        lanes();
        losing();
        puttingRefusals();
        cellRefusals();
        copying();
        copyRefusals();
        faults();
        due.end();
    }

    private static void sheets() {
        due.fresh();
        due.is("sheet 4 comes ahead of lane", due.x.sheet(4, 3, 61), SoftGlass.UNKNOWN);
        due.is("sheet -1", due.x.sheet(-1, 0, 1), SoftGlass.UNKNOWN);
        due.is("lane 3 comes ahead of SIZE", due.x.sheet(0, 3, -1), SoftGlass.OUTSIDE);
        due.is("lane -1", due.x.sheet(0, -1, 1), SoftGlass.OUTSIDE);
        due.is("n 61", due.x.sheet(0, 0, 61), SoftGlass.OUTSIDE);
        due.is("n -1", due.x.sheet(0, 0, -1), Due.SIZE);
        due.is("fault", due.x.fault(), 4);
        due.is("still nothing", due.x.lose(0), 0);
        due.is("n 0", due.x.sheet(0, 0, 0), 1);
        due.is("fault", due.x.fault(), 0);
        due.is("a row of none is a row", due.x.put(0, 0, 1), Due.INDEX);
        due.is("n 60", due.x.sheet(3, 2, 60), 1);
        due.is("0 at first", due.x.cell(3, 59, 2), 0);
        due.is("the last cell", due.x.put(3, 59, 7), 1);
        due.is("put", due.x.cell(3, 59, 2), 7);
        due.is("a new row of fewer", due.x.sheet(3, 2, 59), 1);
        due.is("a new row of more", due.x.sheet(3, 2, 60), 1);
        due.is("0 again", due.x.cell(3, 59, 2), 0);
        due.is("a refusal leaves the row", due.x.sheet(3, 2, 61), SoftGlass.OUTSIDE);
        due.is("as it was", due.x.cell(3, 59, 2), 0);
        due.is("a fault leaves the row", due.x.sheet(3, 2, -5), Due.SIZE);
        due.is("as it was", due.x.cell(3, 59, 2), 0);
    }

    private static void lanes() {
        int[] numbers = {0, 127, 128, 255, 256, -129, 32767, 32768, 65535, 70001, Integer.MAX_VALUE, Integer.MIN_VALUE};
        due.fresh();
        for (int lane = 0; lane < 3; lane++) {
            due.row(lane, lane, numbers);
            for (int i = 0; i < numbers.length; i++) {
                int cut = lane == 0 ? (byte) numbers[i] : lane == 1 ? (short) numbers[i] : numbers[i];
                due.is("lane " + lane + " of " + numbers[i], due.x.cell(lane, i, lane), cut);
            }
        }
    }

    private static void losing() {
        due.fresh();
        due.is("sheet 4", due.x.lose(4), SoftGlass.UNKNOWN);
        due.is("sheet -1", due.x.lose(-1), SoftGlass.UNKNOWN);
        due.is("had nothing", due.x.lose(2), 0);
        due.row(2, 2, 5);
        due.is("had a row", due.x.lose(2), 1);
        due.is("has nothing", due.x.put(2, 0, 1), Due.NULL);
        due.is("lose names no fault", due.x.lose(2), 0);
        due.is("so it is as it was", due.x.fault(), 1);
        due.is("other rows stay", due.x.sheet(1, 0, 3), 1);
        due.x.lose(2);
        due.is("there", due.x.cell(1, 2, 0), 0);
    }

    private static void puttingRefusals() {
        due.fresh();
        due.is("sheet 4", due.x.put(4, 0, 1), SoftGlass.UNKNOWN);
        due.is("sheet -1", due.x.put(-1, 0, 1), SoftGlass.UNKNOWN);
        due.is("NULL comes ahead of INDEX", due.x.put(0, -1, 1), Due.NULL);
        due.is("fault", due.x.fault(), 1);
        due.row(0, 0, 5, 6);
        due.is("i -1", due.x.put(0, -1, 1), Due.INDEX);
        due.is("i 2", due.x.put(0, 2, 1), Due.INDEX);
        due.is("i most", due.x.put(0, Integer.MAX_VALUE, 1), Due.INDEX);
        due.is("fault", due.x.fault(), 3);
        due.is("as it was", due.x.cell(0, 1, 0), 6);
        due.is("fault of what went", due.x.fault(), 0);
    }

    private static void cellRefusals() {
        due.fresh();
        cellLost("sheet 4", 4, 0, 0, 0);
        cellLost("sheet -1", -1, 0, 0, 0);
        cellLost("lane 3 comes ahead of NULL", 0, 0, 3, 0);
        cellLost("lane -1", 0, 0, -1, 0);
        cellLost("nothing is no CAST", 0, -1, 1, 1);
        due.row(0, 0, 5, 6);
        cellLost("CAST comes ahead of INDEX", 0, 2, 1, 2);
        cellLost("i -1", 0, -1, 0, 3);
        cellLost("i 2", 0, 2, 0, 3);
        cellLost("i least", 0, Integer.MIN_VALUE, 0, 3);
        due.is("cell", due.x.cell(0, 1, 0), 6);
        due.is("fault", due.x.fault(), 0);
    }

    private static void cellLost(String what, int k, int i, int lane, int fault) {
        due.is(what, due.x.cell(k, i, lane), SoftGlass.LOST);
        due.is("fault of " + what, due.x.fault(), fault);
    }

    private static void copying() {
        due.fresh();
        due.row(0, 1, 1, 2, 3, 4, 5);
        due.row(1, 1, 9, 9, 9);
        due.is("copy", due.x.copy(0, 1, 1, 0, 2), 2);
        rowIs(1, 1, 2, 3, 9);
        due.is("none, from both ends", due.x.copy(0, 5, 1, 3, 0), 0);
        due.is("to the same, up", due.x.copy(0, 0, 0, 1, 4), 4);
        rowIs(0, 1, 1, 1, 2, 3, 4);
        due.is("to the same, down", due.x.copy(0, 2, 0, 0, 3), 3);
        rowIs(0, 1, 2, 3, 4, 3, 4);
        due.is("whole to itself", due.x.copy(0, 0, 0, 0, 5), 5);
        rowIs(0, 1, 2, 3, 4, 3, 4);
    }

    private static void rowIs(int k, int lane, int... numbers) {
        for (int i = 0; i < numbers.length; i++) {
            due.is("cell " + i + " of sheet " + k, due.x.cell(k, i, lane), numbers[i]);
        }
    }

    private static void copyRefusals() {
        due.fresh();
        due.is("first sheet", due.x.copy(4, 0, 0, 0, 0), SoftGlass.UNKNOWN);
        due.is("other sheet comes ahead of NULL", due.x.copy(0, 0, 4, 0, 0), SoftGlass.UNKNOWN);
        due.is("both have nothing", due.x.copy(0, -1, 1, 0, 0), Due.NULL);
        due.row(0, 0, 1, 2, 3);
        due.is("the other has nothing", due.x.copy(0, -1, 1, 0, 0), Due.NULL);
        due.is("the first has nothing", due.x.copy(1, -1, 0, 0, 0), Due.NULL);
        due.row(1, 1, 4, 5);
        due.is("CAST comes ahead of INDEX", due.x.copy(0, -1, 1, 0, -1), Due.CAST);
        due.is("fault", due.x.fault(), 2);
        due.row(1, 0, 4, 5);
        int[][] beyond = {{-1, 0, 1}, {0, -1, 1}, {0, 0, -1}, {1, 0, 3}, {0, 0, 3}, {0, 1, 2}, {4, 0, 0}, {0, 3, 0},
            {3, 0, 1}, {0, 2, 1}, {Integer.MAX_VALUE, 0, 1}, {0, Integer.MAX_VALUE, 1}, {1, 1, Integer.MAX_VALUE}};
        for (int[] b : beyond) {
            due.is("copy " + b[0] + " " + b[1] + " " + b[2], due.x.copy(0, b[0], 1, b[1], b[2]), Due.INDEX);
            due.is("fault", due.x.fault(), 3);
        }
        rowIs(1, 0, 4, 5);
        due.is("it goes", due.x.copy(0, 1, 1, 0, 2), 2);
        due.is("fault", due.x.fault(), 0);
    }

    /** Which calls set fault() anew, and which leave it. */
    private static void faults() {
        due.fresh();
        due.piece(9, 3, 7);
        due.recipe("w1");
        due.aim(5);
        due.x.job(1, 1, 1);
        refault();
        due.x.ring(0, 0, 0);
        due.x.ring(9, 0, 0);
        due.x.ofPiece(0, 9);
        due.x.tenth(0, 0, 1);
        due.x.tenth(9, 0, 1);
        due.x.item(0, 0);
        due.x.make(0, 0);
        due.x.look(0, 0, -1, 0, 0, 0);
        due.x.oven(0, 400, 1);
        due.x.quickest(0, 0, 0);
        due.x.holds(0, 5, 5, 0, 0);
        due.x.span(0, 5, 5, 0, 0);
        due.x.odds(0, 5, 5, 0, 0, 1, 0);
        due.x.join(0, 5, 5, 0, 0);
        due.x.miss(0);
        due.x.nearest(0, 1, 0);
        due.x.spoils(0, 0, 0, 0);
        due.x.job(1, 1, 1);
        due.x.order(0, 0);
        due.x.morning(0, 0);
        due.x.lose(0);
        due.x.lose(9);
        due.x.tell(0, 0);
        due.x.call(0, 0);
        due.x.trace();
        due.x.many(0);
        due.is("these name none", due.x.fault(), 1);
        due.is("asking for it leaves it", due.x.fault(), 1);
        clears("piece", due.x.piece(9, 0, 0, 0));
        clears("recipe", due.x.recipe(9, 0, 0, 0));
        clears("aim", due.x.aim(9, 0, 0, 0));
        clears("sheet", due.x.sheet(9, 0, 0));
        clears("put", due.x.put(9, 0, 0));
        clears("copy", due.x.copy(9, 0, 0, 0, 0));
        clears("as", due.x.as(9, 0, 0));
        clears("as of a kind", due.x.as(0, 0, 4));
        due.x.cell(9, 0, 0);
        due.is("cell", due.x.fault(), 0);
    }

    private static void refault() {
        due.x.lose(3);
        due.is("a fault", due.x.put(3, 0, 0), Due.NULL);
    }

    private static void clears(String call, int answer) {
        due.is(call + " was refused", answer < 0 && answer > -10 ? 1 : 0, 1);
        due.is(call + " clears the fault", due.x.fault(), 0);
        refault();
    }
}
