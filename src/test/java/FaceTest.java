import java.lang.reflect.Constructor;
import java.lang.reflect.Field;
import java.lang.reflect.Method;
import java.lang.reflect.Modifier;
import java.util.Set;
import java.util.TreeSet;

/** The public face: just the document's constants, constructor and methods, and rule 1 of LANGUAGE.md. */
public final class FaceTest {
    private static final Due due = new Due("FaceTest");
    private static final String[] FACE = {
        "int piece(int,int,int,int)", "int ring(int,int,int)", "int ofPiece(int,int)", "int tenth(int,int,int)",
        "int recipe(int,int,int,int)", "int item(int,int)", "int make(int,int)", "int look(int,int,int,int,int,int)",
        "int oven(int,int,int)", "int quickest(int,int,int)", "int holds(int,int,int,int,int)",
        "int span(int,int,int,int,int)", "long odds(int,int,int,int,int,int,int)", "int join(int,int,int,int,int)",
        "int aim(int,int,int,int)", "int miss(int)", "int nearest(int,int,int)", "int spoils(int,int,int,int)",
        "int job(int,int,int)", "int order(int,int)", "int morning(int,int)", "int sheet(int,int,int)", "int lose(int)",
        "int put(int,int,int)", "long cell(int,int,int)", "int copy(int,int,int,int,int)", "int tell(int,int)",
        "int call(int,int)", "int as(int,int,int)", "int trace()", "int fault()", "int many(int)"};

    public static void main(String[] args) {
        constants();
        members();
        nested();
        due.end();
    }

    private static void constants() {
        due.is("UNKNOWN", SoftGlass.UNKNOWN, -1);
        due.is("OUTSIDE", SoftGlass.OUTSIDE, -2);
        due.is("STATE", SoftGlass.STATE, -3);
        due.is("FULL", SoftGlass.FULL, -4);
        due.is("NONE", SoftGlass.NONE, -9);
        due.is("LOST", SoftGlass.LOST, Long.MIN_VALUE);
        Set<String> open = new TreeSet<>();
        for (Field f : SoftGlass.class.getDeclaredFields()) {
            if (!Modifier.isPrivate(f.getModifiers())) {
                open.add(f.getName());
            }
        }
        same("open fields", open, new TreeSet<>(Set.of("UNKNOWN", "OUTSIDE", "STATE", "FULL", "NONE", "LOST")));
    }

    private static void members() {
        due.is("public and final", SoftGlass.class.getModifiers(), Modifier.PUBLIC | Modifier.FINAL);
        Constructor<?>[] made = SoftGlass.class.getDeclaredConstructors();
        due.is("one constructor", made.length, 1);
        due.is("it is public", made[0].getModifiers(), Modifier.PUBLIC);
        due.is("it takes nothing", made[0].getParameterCount(), 0);
        Set<String> open = new TreeSet<>();
        Set<String> names = new TreeSet<>();
        for (Method m : SoftGlass.class.getDeclaredMethods()) {
            if (!Modifier.isPrivate(m.getModifiers())) {
                due.is(m.getName() + " is public", m.getModifiers(), Modifier.PUBLIC);
                open.add(told(m));
                names.add(m.getName());
            }
        }
        same("open methods", open, new TreeSet<>(Set.of(FACE)));
        for (Method m : SoftGlass.class.getDeclaredMethods()) {
            boolean clash = Modifier.isPrivate(m.getModifiers()) && names.contains(m.getName());
            due.is("private " + m.getName() + " has a public name", clash ? 1 : 0, 0);
        }
    }

    private static void nested() {
        Class<?>[] inside = SoftGlass.class.getDeclaredClasses();
        due.is("at most twelve classes", inside.length < 12 ? 1 : 0, 1);
        for (Class<?> c : inside) {
            due.is(c + " is static", Modifier.isStatic(c.getModifiers()) ? 1 : 0, 1);
            due.is(c + " is not public", Modifier.isPublic(c.getModifiers()) ? 1 : 0, 0);
            for (Method m : c.getDeclaredMethods()) {
                due.is(m + " takes at most seven", m.getParameterCount() <= 7 ? 1 : 0, 1);
            }
        }
    }

    private static String told(Method m) {
        StringBuilder text = new StringBuilder(m.getReturnType().getName()).append(' ').append(m.getName()).append('(');
        String between = "";
        for (Class<?> type : m.getParameterTypes()) {
            text.append(between).append(type.getName());
            between = ",";
        }
        return text.append(')').toString();
    }

    private static void same(String what, Set<String> got, Set<String> want) {
        if (!got.equals(want)) {
            System.out.println(what + ": " + got);
        }
        due.is(what, got.equals(want) ? 1 : 0, 1);
    }
}
