/** What the tests share: one object under test, answers compared with what is due, and short ways to fill sheets. */
final class Due {
    static final int NULL = -11, CAST = -12, INDEX = -13, SIZE = -14;
    private final String test;
    private int compared;
    private int wrong;
    SoftGlass x = new SoftGlass();

    Due(String test) {
        this.test = test;
    }

    void fresh() {
        x = new SoftGlass();
    }

    void is(String what, long got, long want) {
        compared++;
        if (got != want) {
            wrong++;
            System.out.println(test + ": " + what + " answered " + got + ", due is " + want);
        }
    }

    void end() {
        System.out.println(test + ": " + compared + " answers compared, " + wrong + " wrong");
        if (wrong != 0 || compared == 0) {
            System.exit(1);
        }
    }

    /** Sheet k gets just these numbers. */
    void row(int k, int lane, int... numbers) {
        is("sheet for a row", x.sheet(k, lane, numbers.length), 1);
        for (int i = 0; i < numbers.length; i++) {
            is("put for a row", x.put(k, i, numbers[i]), 1);
        }
    }

    /** A piece by sheet 2, rings as glass, radius, heat. */
    int piece(int... numbers) {
        row(2, 2, numbers);
        return x.piece(2, 2, 0, numbers.length / 3);
    }

    /** A recipe by sheet 1. */
    int recipe(String text) {
        int[] codes = new int[text.length()];
        for (int i = 0; i < codes.length; i++) {
            codes[i] = text.charAt(i);
        }
        row(1, 1, codes);
        return x.recipe(1, 1, 0, codes.length);
    }

    /** An aim by sheet 0. */
    int aim(int... radii) {
        row(0, 0, radii);
        return x.aim(0, 0, 0, radii.length);
    }

    /** All that ring() tells of a ring. */
    void ringIs(String when, int p, int k, int... facts) {
        for (int what = 0; what < facts.length; what++) {
            is(when + ": ring(" + p + ", " + k + ", " + what + ")", x.ring(p, k, what), facts[what]);
        }
    }
}
