import java.lang.reflect.Constructor;
import java.lang.reflect.Field;
import java.lang.reflect.Method;
import java.lang.reflect.Modifier;
import java.util.Arrays;
import java.util.Set;
import java.util.TreeSet;

/** The public face is the document's, to the letter, and there is no other member to be seen. */
public final class FaceTest {
    private static final String OUTSIDE = "IndexOutOfBoundsException";
    private static final String ILLEGAL = "IllegalArgumentException";
    private static final String STATE = "IllegalStateException";

    private static final String[] FACE = {
        "int person(boolean, boolean) " + STATE,
        "int skill(int, int, int) " + OUTSIDE + " " + ILLEGAL,
        "int walk(int, int) " + OUTSIDE + " " + ILLEGAL,
        "int kit(int, int, int) " + OUTSIDE + " " + ILLEGAL + " " + STATE,
        "int inspect(int) " + OUTSIDE,
        "int put(int, int) " + OUTSIDE + " " + STATE,
        "int gag(int, int, int, int) " + OUTSIDE + " " + ILLEGAL + " " + STATE,
        "int change(int, int, int, int) " + OUTSIDE + " " + ILLEGAL,
        "int rehearse(int) " + OUTSIDE + " " + STATE,
        "int sign(int, int) " + OUTSIDE + " " + STATE,
        "boolean no(int, int, boolean) " + OUTSIDE,
        "int arm(int) " + OUTSIDE + " " + STATE,
        "int down(int) " + OUTSIDE + " " + STATE,
        "int take(int) " + OUTSIDE + " " + STATE,
        "int weather(int, boolean) " + ILLEGAL,
        "int pass(int) " + ILLEGAL + " " + STATE,
        "int ofPerson(int, int) " + OUTSIDE + " " + ILLEGAL,
        "int ofKit(int, int) " + OUTSIDE + " " + ILLEGAL,
        "int ofGag(int, int) " + OUTSIDE + " " + ILLEGAL,
        "int ofKind(int, boolean) " + OUTSIDE,
        "int many(int) " + ILLEGAL,
        "double meanMargin()",
        "int mostLevel(int) " + OUTSIDE,
        "int bestPerformer(int) " + OUTSIDE,
        "int needs(int) " + OUTSIDE,
        "int safeFrom(int) " + OUTSIDE,
        "long digest()"
    };

    public static void main(String[] args) {
        Check check = new Check("FaceTest");
        Class<?> c = Stuntledger.class;
        check.due("the class's modifiers", Modifier.toString(c.getModifiers()), "public final");
        check.due("how many constructors", c.getDeclaredConstructors().length, 1);
        for (Constructor<?> made : c.getDeclaredConstructors()) {
            check.due("the constructor", Modifier.toString(made.getModifiers()) + made.getParameterCount(), "public0");
        }
        Set<String> seen = new TreeSet<>();
        Set<String> names = new TreeSet<>();
        for (Method m : c.getDeclaredMethods()) {
            if (!Modifier.isPrivate(m.getModifiers())) {
                check.due(m.getName() + "'s modifiers", Modifier.toString(m.getModifiers()), "public");
                seen.add(described(m));
                names.add(m.getName());
            }
        }
        check.due("the face", seen.toString(), new TreeSet<>(Arrays.asList(FACE)).toString());
        for (Method m : c.getDeclaredMethods()) {
            boolean isHidden = Modifier.isPrivate(m.getModifiers());
            check.due(m.getName() + "() is private, and bears a public name", isHidden && names.contains(m.getName()), false);
        }
        for (Field f : c.getDeclaredFields()) {
            int modifiers = f.getModifiers();
            check.due(f.getName() + " is private", Modifier.isPrivate(modifiers), true);
            check.due(f.getName() + " is final, if static", !Modifier.isStatic(modifiers) || Modifier.isFinal(modifiers), true);
        }
        for (Class<?> inside : c.getDeclaredClasses()) {
            int modifiers = inside.getModifiers();
            check.due(inside.getName() + " is static, and not to be seen",
                    Modifier.isStatic(modifiers) && !Modifier.isPublic(modifiers) && !Modifier.isProtected(modifiers), true);
        }
        check.end();
    }

    private static String described(Method m) {
        StringBuilder text = new StringBuilder(m.getReturnType().getSimpleName() + " " + m.getName() + "(");
        for (Class<?> parameter : m.getParameterTypes()) {
            text.append(text.charAt(text.length() - 1) == '(' ? "" : ", ").append(parameter.getSimpleName());
        }
        text.append(")");
        for (Class<?> thrown : m.getExceptionTypes()) {
            text.append(" ").append(thrown.getSimpleName());
        }
        return text.toString();
    }
}
