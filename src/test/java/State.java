/** All that an object tells of itself, as a text: what a refused call must leave as it was. */
final class State {
    private final SoftGlass x;
    private final StringBuilder told = new StringBuilder();

    private State(SoftGlass x) {
        this.x = x;
    }

    /** Reading cells sets fault() anew, so fault() is not part of it and must be read ahead of this. */
    static String of(SoftGlass x) {
        State state = new State(x);
        state.line("many", x.many(0), x.many(1), x.many(2), x.many(3));
        state.line("trace", x.trace());
        for (int p = 0; p < x.many(0); p++) {
            state.piece(p);
        }
        for (int q = 0; q < x.many(1); q++) {
            state.recipe(q);
        }
        state.jobs(x.many(2));
        for (int k = 0; k < 4; k++) {
            state.sheet(k);
        }
        return state.told.toString();
    }

    private void line(String what, long... numbers) {
        told.append(what);
        for (long number : numbers) {
            told.append(' ').append(number);
        }
        told.append('\n');
    }

    private void piece(int p) {
        line("piece", x.ofPiece(p, 0), x.ofPiece(p, 1), x.miss(p));
        for (int k = 0; k < x.ofPiece(p, 0); k++) {
            line("ring", x.ring(p, k, 0), x.ring(p, k, 1), x.ring(p, k, 2), x.ring(p, k, 5));
        }
    }

    private void recipe(int q) {
        line("recipe", x.item(q, -1));
        for (int k = 0; k < x.item(q, -1); k++) {
            line("item", x.item(q, k));
        }
    }

    private void jobs(int count) {
        int all = (1 << count) - 1;
        line("jobs", x.order(all, -1), x.morning(999, 0), x.morning(999, 1), x.morning(15, 0), x.morning(15, 1));
        for (int k = 0; k < count; k++) {
            line("job", x.order(all, k), x.order(1 << k, -1));
        }
    }

    private void sheet(int k) {
        for (int lane = 0; lane < 3; lane++) {
            int i = 0;
            long cell = x.cell(k, i, lane);
            line("sheet, lane", k, lane, x.fault());
            while (cell != SoftGlass.LOST && i < 61) {
                line("cell", cell);
                i++;
                cell = x.cell(k, i, lane);
            }
        }
    }
}
