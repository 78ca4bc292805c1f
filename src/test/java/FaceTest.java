import java.lang.reflect.Constructor;
import java.lang.reflect.Field;
import java.lang.reflect.Method;
import java.lang.reflect.Modifier;
import java.util.Set;
import java.util.TreeSet;

/** The class has the document's face, and no other member of it can be seen. */
public final class FaceTest {
    private static final String[] FACE = {
        "int feed(int,int,int,int,int)", "int net(int)", "int fault(int)", "int station(int,int)",
        "int way(int,int,int)", "int brings(int)", "int pass(int)", "int off(int,int)",
        "int sleep(int)", "int dull(int,int)", "int undo(int)", "int judge(int,int)",
        "int perform(int)", "int season(int,int)", "int soonest(int,int)",
        "int soonBy(int,int,int)", "int fewest(int,int)", "int fewBy(int,int,int)",
        "int biggest(int)", "int reach()", "int needed(int)", "int sleepers(int,int)",
        "int spread(int,int)", "int rounds()", "int crowd()", "int stopper()",
        "int meets(int,int,int)", "long back(int,int,int)", "int backBy(int,int,int,int)",
        "int surely(int,int,int)", "int dulls(int,int,int)", "int attempt(int,int,int)",
        "int forces(int)", "int best(int)", "long chance(int,int,int)", "int likeliest(int)",
        "int numbers(int,int,int)", "long write(int,int,long)", "int lists(int,int)",
        "int image(int)", "int restore(int)", "int count(int)"};

    public static void main(String[] args) {
        Check check = new Check("FaceTest");
        Class<?> c = YawnRoute.class;
        check.holds("public and final", c.getModifiers() == (Modifier.PUBLIC | Modifier.FINAL));
        check.holds("of no other class", c.getSuperclass() == Object.class && c.getInterfaces().length == 0);
        check.due("the constant", YawnRoute.NONE, -1);
        Set<String> names = new TreeSet<>();
        Set<String> seen = new TreeSet<>();
        for (Method m : c.getDeclaredMethods()) {
            if (Modifier.isPublic(m.getModifiers())) {
                names.add(m.getName());
                seen.add(told(m));
                check.holds(m + " is no static one", m.getModifiers() == Modifier.PUBLIC);
            } else {
                check.holds(m + " is private", Modifier.isPrivate(m.getModifiers()));
            }
        }
        check.holds("the face is as told: " + seen, seen.equals(new TreeSet<>(Set.of(FACE))));
        for (Field f : c.getDeclaredFields()) {
            boolean isNone = f.getName().equals("NONE") && f.getType() == int.class
                && f.getModifiers() == (Modifier.PUBLIC | Modifier.STATIC | Modifier.FINAL);
            check.holds(f + " is private", isNone || Modifier.isPrivate(f.getModifiers()));
        }
        Constructor<?>[] all = c.getDeclaredConstructors();
        check.holds("one constructor", all.length == 1 && all[0].getParameterCount() == 0
            && Modifier.isPublic(all[0].getModifiers()));
        for (Class<?> inside : c.getDeclaredClasses()) {
            look(check, inside, names);
            fields(check, inside);
        }
        fields(check, c);
        for (Method m : c.getDeclaredMethods()) {
            check.holds(m + " bears no name of the face", Modifier.isPublic(m.getModifiers()) || !names.contains(m.getName()));
        }
        check.end();
    }

    private static void look(Check check, Class<?> inside, Set<String> names) {
        check.holds(inside + " is static", Modifier.isStatic(inside.getModifiers()));
        check.holds(inside + " can't be seen", !Modifier.isPublic(inside.getModifiers())
            && !Modifier.isProtected(inside.getModifiers()));
        for (Method m : inside.getDeclaredMethods()) {
            check.holds(m + " bears no name of the face", !names.contains(m.getName()));
            check.holds(m + " can't be seen", !Modifier.isPublic(m.getModifiers()));
        }
    }

    private static void fields(Check check, Class<?> c) {
        int n = 0;
        for (Field f : c.getDeclaredFields()) {
            boolean isStatic = Modifier.isStatic(f.getModifiers());
            n += isStatic ? 0 : 1;
            check.holds(f + " is a constant or of an object", !isStatic || Modifier.isFinal(f.getModifiers()));
            check.holds(f + " is of a type that rule 3 names", isPlain(f.getType()));
            check.holds(f + " is of a type for constants", !isStatic || f.getType().isPrimitive() || f.getType() == String.class);
        }
        check.holds(c + " has " + n + " fields", n <= 20);
    }

    /** Of one dimension, or of two of numbers. */
    private static boolean isPlain(Class<?> type) {
        if (!type.isArray()) {
            return type.isPrimitive() || type == String.class || type.getName().startsWith("YawnRoute");
        }
        Class<?> part = type.getComponentType();
        return part.isArray() ? part.getComponentType().isPrimitive() : part.isPrimitive() || part.getName().startsWith("YawnRoute");
    }

    private static String told(Method m) {
        StringBuilder b = new StringBuilder(m.getReturnType().getName());
        b.append(' ').append(m.getName()).append('(');
        for (int i = 0; i < m.getParameterCount(); i++) {
            b.append(i > 0 ? "," : "").append(m.getParameterTypes()[i].getName());
        }
        return b.append(')').toString();
    }
}
