import java.lang.reflect.Constructor;
import java.lang.reflect.Field;
import java.lang.reflect.Method;
import java.lang.reflect.Modifier;
import java.util.Set;
import java.util.TreeSet;

/** The public face: just the members of the document, with their types and exceptions. */
public final class FaceTest {
    private static final String FACT = "(int,int,int) throws java.lang.IllegalArgumentException";
    private static final String STATE = ",java.lang.IllegalStateException";
    private static final String FULL = ",java.lang.UnsupportedOperationException";

    public static void main(String[] args) {
        Due due = new Due();
        Set<String> want = new TreeSet<>(Set.of(
                "public static final int StrataHouse.NONE",
                "public StrataHouse()",
                "public void StrataHouse.clear()",
                "public int StrataHouse.relation(int) throws java.lang.IllegalArgumentException" + FULL,
                "public boolean StrataHouse.give" + FACT,
                "public boolean StrataHouse.take" + FACT,
                "public int StrataHouse.rule" + FACT + FULL,
                "public void StrataHouse.unrule() throws java.lang.IllegalStateException"));
        want.addAll(Set.of(
                "public int StrataHouse.literal(int,int,int,boolean) throws java.lang.IllegalStateException"
                        + ",java.lang.IllegalArgumentException" + FULL,
                "public int StrataHouse.fault()",
                "public int StrataHouse.layer(int) throws java.lang.IllegalArgumentException" + STATE,
                "public int StrataHouse.count(int) throws java.lang.IllegalArgumentException" + STATE,
                "public int StrataHouse.rank" + FACT + STATE,
                "public int StrataHouse.ways" + FACT + STATE,
                "public int StrataHouse.proof(int,int,int,int) throws java.lang.IllegalArgumentException" + STATE
                        + ",java.util.NoSuchElementException"));
        due.same("the members", String.join("\n", openMembers()), String.join("\n", want));
        due.same("the class", Modifier.toString(StrataHouse.class.getModifiers()), "public final");
        due.is("NONE", () -> StrataHouse.NONE, -1);
        checkRules(due, StrataHouse.class);
        for (Class<?> inside : StrataHouse.class.getDeclaredClasses()) {
            due.is(inside.getName() + " is static", () -> Due.bit(Modifier.isStatic(inside.getModifiers())), 1);
            checkRules(due, inside);
        }
        due.end();
    }

    /** Rules 1, 5 and 11 of LANGUAGE.md, as far as the compiled class shows them. */
    private static void checkRules(Due due, Class<?> part) {
        int held = 0;
        for (Field field : part.getDeclaredFields()) {
            boolean isStatic = Modifier.isStatic(field.getModifiers());
            held += isStatic ? 0 : 1;
            due.same(field + " static but not final",
                    String.valueOf(isStatic && !Modifier.isFinal(field.getModifiers())), "false");
        }
        due.same(part + " with more than twenty fields", String.valueOf(held > 20), "false");
        for (Method method : part.getDeclaredMethods()) {
            due.same(method + " private with the name of a public one",
                    String.valueOf(Modifier.isPrivate(method.getModifiers()) && isOfTheFace(method.getName())), "false");
            due.same(method + " with more than seven parameters",
                    String.valueOf(method.getParameterCount() > 7), "false");
        }
    }

    private static boolean isOfTheFace(String name) {
        for (Method method : StrataHouse.class.getDeclaredMethods()) {
            if (Modifier.isPublic(method.getModifiers()) && method.getName().equals(name)) {
                return true;
            }
        }
        return false;
    }

    private static Set<String> openMembers() {
        Set<String> open = new TreeSet<>();
        Class<?> house = StrataHouse.class;
        for (Field field : house.getDeclaredFields()) {
            addOpen(open, field.getModifiers(), field.toGenericString());
        }
        for (Constructor<?> made : house.getDeclaredConstructors()) {
            addOpen(open, made.getModifiers(), made.toGenericString());
        }
        for (Method method : house.getDeclaredMethods()) {
            addOpen(open, method.getModifiers(), method.toGenericString());
        }
        return open;
    }

    private static void addOpen(Set<String> open, int modifiers, String text) {
        if (!Modifier.isPrivate(modifiers)) {
            open.add(text);
        }
    }
}
