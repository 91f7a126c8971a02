import java.lang.reflect.InvocationTargetException;
import java.lang.reflect.Method;
import java.lang.reflect.Modifier;
import java.util.ArrayList;
import java.util.List;
import java.util.Random;

/** No call may ever throw, whatever its numbers are, in objects that hold little or much. */
public final class WildTest {
    private static final int[] NUMBERS = {Integer.MIN_VALUE, Integer.MIN_VALUE + 1, -1000, -100, -10, -3, -2, -1, 0, 1, 2, 3, 4, 5,
        6, 7, 8, 9, 10, 15, 16, 20, 21, 59, 60, 61, 97, 99, 100, 127, 128, 400, 560, 999, 1000, 1500, 9999, 1431655766,
        Integer.MAX_VALUE - 1, Integer.MAX_VALUE};

    public static void main(String[] args) throws IllegalAccessException {
        List<Method> face = new ArrayList<>();
        for (Method method : SoftGlass.class.getDeclaredMethods()) {
            if (Modifier.isPublic(method.getModifiers())) {
                face.add(method);
            }
        }
        Due due = new Due("WildTest");
        Random random = new Random(5);
        for (int run = 0; run < 600; run++) {
            due.fresh();
            if (run % 2 == 0) {
                furnish(due);
            }
            for (int call = 0; call < 400; call++) {
                Method method = face.get(random.nextInt(face.size()));
                Object[] a = new Object[method.getParameterCount()];
                for (int k = 0; k < a.length; k++) {
                    a[k] = random.nextInt(3) > 0 ? random.nextInt(4) : NUMBERS[random.nextInt(NUMBERS.length)];
                }
                try {
                    method.invoke(due.x, a);
                } catch (InvocationTargetException e) {
                    due.is(method.getName() + java.util.Arrays.toString(a) + " threw " + e.getCause(), 1, 0);
                }
            }
            due.is("it still answers", due.x.many(4), SoftGlass.OUTSIDE);
        }
        due.end();
    }

    private static void furnish(Due due) {
        due.piece(200, 10, 1100, 100, 20, 1000);
        due.piece(999, 1, 1500, 999, 1, 1500, 999, 1, 1500, 999, 1, 1500, 999, 1, 1500, 999, 1, 1500, 999, 1, 1500, 999, 1, 1500);
        due.recipe("w2;t3;b4;m5;u1;o3;j1;b1");
        due.recipe("w9;j7");
        due.aim(20, 30, 5);
        due.x.job(3, 9, 5);
        due.x.job(8, 2, 7);
    }
}
