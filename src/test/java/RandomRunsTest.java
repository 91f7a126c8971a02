import java.lang.reflect.InvocationTargetException;
import java.lang.reflect.Method;
import java.util.HashMap;
import java.util.Map;
import java.util.Random;

/** Runs of up to 512 calls, mostly sensible ones, on an object and on the Model: every answer must be the same. */
public final class RandomRunsTest {
    /** No step makes more calls than LONGEST_STEP: a text of 60 codes is put and read. */
    private static final int RUNS = 400, CALLS = 512, LONGEST_STEP = 62;
    private static final int[] WILD = {Integer.MIN_VALUE, Integer.MAX_VALUE, -1, -2, 0, 1, 7, 8, 9, 60, 61, 100, 128, 1431655766};
    private static final Due due = new Due("RandomRunsTest");
    private static final Map<String, Method> real = methods(SoftGlass.class);
    private static final Map<String, Method> model = methods(Model.class);
    private static final String[] names = real.keySet().stream().sorted().toArray(String[]::new);
    private static Random random;
    private static SoftGlass x;
    private static Model m;
    private static StringBuilder log;
    private static int calls;
    private static boolean apart;

    public static void main(String[] args) {
        int runs = args.length > 0 ? Integer.parseInt(args[0]) : RUNS;
        for (int run = 0; run < runs && !apart; run++) {
            random = new Random(1000 + run);
            x = new SoftGlass();
            m = new Model();
            log = new StringBuilder();
            calls = 0;
            while (calls <= CALLS - LONGEST_STEP && !apart) {
                step();
            }
            if (apart) {
                System.out.println("run " + run + " went apart:\n" + log);
            }
        }
        due.end();
    }

    private static Map<String, Method> methods(Class<?> of) {
        Map<String, Method> found = new HashMap<>();
        for (Method method : of.getDeclaredMethods()) {
            if (java.lang.reflect.Modifier.isPublic(method.getModifiers())) {
                found.put(method.getName(), method);
            }
        }
        return found;
    }

    private static long both(String name, int... a) {
        long got = one(x, real.get(name), a);
        long want = one(m, model.get(name), a);
        String call = name + java.util.Arrays.toString(a);
        log.append(call).append(" -> ").append(got).append('\n');
        due.is(call, got, want);
        apart |= got != want;
        calls++;
        return got;
    }

    private static long one(Object on, Method method, int[] a) {
        Object[] boxed = new Object[a.length];
        for (int k = 0; k < a.length; k++) {
            boxed[k] = a[k];
        }
        try {
            return ((Number) method.invoke(on, boxed)).longValue();
        } catch (IllegalAccessException e) {
            throw new IllegalStateException(e);
        } catch (InvocationTargetException e) {
            throw new IllegalStateException(method + " threw", e.getCause());
        }
    }

    private static int upTo(int n) {
        return random.nextInt(n + 1);
    }

    private static void step() {
        switch (upTo(11)) {
            case 0 -> gather();
            case 1 -> write();
            case 2 -> take();
            case 3 -> both("job", upTo(20), upTo(20), upTo(9));
            case 4 -> facts();
            case 5 -> wild();
            default -> sensible();
        }
    }

    private static void fill(int k, int lane, int[] numbers) {
        both("sheet", k, lane, numbers.length);
        for (int i = 0; i < numbers.length; i++) {
            both("put", k, i, numbers[i]);
        }
    }

    private static void gather() {
        int n = random.nextBoolean() ? 1 + upTo(2) : 1 + upTo(7);
        int[] numbers = new int[3 * n];
        for (int k = 0; k < n; k++) {
            numbers[3 * k] = 1 + upTo(998);
            numbers[3 * k + 1] = 1 + upTo(random.nextBoolean() ? 10 : 98);
            numbers[3 * k + 2] = random.nextBoolean() ? 900 + upTo(601) : 100 * upTo(16) - upTo(1);
        }
        fill(2, 2, numbers);
        both("piece", 2, 2, 0, n);
    }

    private static void write() {
        StringBuilder text = new StringBuilder();
        int n = 1 + (random.nextInt(3) == 0 ? upTo(8) : upTo(3));
        for (int k = 0; k < n; k++) {
            char letter = "wtbmuoj".charAt(upTo(6));
            text.append(k > 0 ? ";" : "").append(letter);
            text.append("wtbm".indexOf(letter) < 0 || random.nextBoolean() ? upTo(9) : upTo(random.nextBoolean() ? 12 : 110));
        }
        if (random.nextInt(6) == 0) {
            text.setCharAt(upTo(text.length() - 1), "wx0;9j8".charAt(upTo(6)));
        }
        int[] codes = text.chars().limit(60).toArray();
        int lane = upTo(2);
        fill(lane, lane, codes);
        both("recipe", lane, lane, 0, codes.length);
    }

    private static void take() {
        int[] radii = new int[1 + upTo(random.nextBoolean() ? 2 : 8)];
        for (int k = 0; k < radii.length; k++) {
            radii[k] = upTo(50);
        }
        fill(0, 0, radii);
        both("aim", 0, 0, 0, radii.length);
    }

    private static void facts() {
        int p = upTo(Math.max(0, m.many(0) - 1));
        for (int what = 0; what < 6; what++) {
            both("ofPiece", p, what);
        }
        int k = upTo(7);
        for (int what = 0; what < 6; what++) {
            both("ring", p, k, what);
        }
        both("trace");
        both("fault");
    }

    private static void wild() {
        String name = names[upTo(names.length - 1)];
        int[] a = new int[real.get(name).getParameterCount()];
        for (int k = 0; k < a.length; k++) {
            a[k] = random.nextInt(3) == 0 ? WILD[upTo(WILD.length - 1)] : upTo(4);
        }
        both(name, a);
        both("fault");
    }

    private static void sensible() {
        int p = upTo(Math.max(0, m.many(0) - 1));
        int q = upTo(Math.max(0, m.many(1) - 1));
        int item = Math.max(0, m.item(q, -1)) == 0 ? 0 : upTo(m.item(q, -1) - 1);
        int g = 1 + upTo(998);
        int r = 1 + upTo(Math.min(g, 99) - 1);
        int h = 500 + upTo(1000);
        switch (upTo(19)) {
            case 0 -> both("tenth", p, upTo(3), upTo(12));
            case 1 -> both("tenth", p, 1 + upTo(2), upTo(200));
            case 2 -> both("make", p, q);
            case 3 -> both("look", p, q, item, upTo(20), upTo(7), upTo(1) * 10 + upTo(5));
            case 4 -> both("look", p, q, -1, upTo(40), upTo(7), upTo(1) * 10 + upTo(5));
            case 5 -> both("oven", p, 400 + upTo(160), upTo(10));
            case 6 -> both("quickest", p, upTo(20), upTo(1));
            case 7 -> both("holds", p, g, r, h, upTo(20));
            case 8 -> both("span", p, g, r, h, upTo(2));
            case 9 -> both("odds", p, g, r, h, upTo(10), 1 + upTo(9998), upTo(1));
            case 10 -> both("join", p, g, r, h, upTo(4));
            case 11 -> both("miss", p);
            case 12 -> both("nearest", p, 1 + upTo(random.nextInt(20) == 0 ? 2 : 1), -1);
            case 13 -> both("nearest", p, 2, upTo(1));
            case 14 -> both("spoils", p, q, upTo(20), upTo(1));
            case 15 -> both("order", upTo((1 << m.many(2)) - 1), upTo(7) - 1);
            case 16 -> both("morning", upTo(random.nextBoolean() ? 60 : 999), upTo(1));
            case 17 -> both("tell", q, item);
            case 18 -> both(random.nextBoolean() ? "call" : "item", q, item);
            default -> sheets(q, item);
        }
    }

    private static void sheets(int q, int item) {
        both("as", q, item, upTo(3));
        both("copy", upTo(3), upTo(5), upTo(3), upTo(5), upTo(5));
        both("cell", upTo(3), upTo(20), upTo(2));
        if (random.nextInt(10) == 0) {
            both("lose", upTo(3));
        }
        both("piece", upTo(3), upTo(2), upTo(20), upTo(3));
        both("recipe", upTo(3), upTo(2), upTo(20), upTo(6));
        both("fault");
    }
}
