import java.lang.reflect.Constructor;
import java.lang.reflect.Field;
import java.lang.reflect.Member;
import java.lang.reflect.Method;
import java.lang.reflect.Modifier;
import java.util.Arrays;
import java.util.Set;
import java.util.TreeSet;

/** The class shows what the document's public face has, and nothing else. */
public final class FaceTest {
    private static final String I = "IndexOutOfBoundsException";
    private static final String S = "IllegalStateException";
    private static final String A = "IllegalArgumentException";
    private static final String U = "UnsupportedOperationException";
    private static final String[] FACE = {
        "int NONE", "new(int)", "int cell() " + S, "int polygon(int,int) " + I + " " + S,
        "boolean corner(int,long,long) " + I + " " + S + " " + A,
        "int path(int,int,long,int) " + I + " " + S + " " + A,
        "boolean point(int,long,long) " + I + " " + S + " " + A,
        "int place(int,int,long,long,int) " + I + " " + S + " " + A,
        "int array(int,int,int,long,long) " + I + " " + A,
        "long box(int,int,int) " + I + " " + S, "int flat(int,int) " + I + " " + U,
        "long at(int,int,int) " + I, "int equalTo(int) " + I + " " + U,
        "int find(int,long,long,long,long) " + I + " " + A + " " + U, "boolean drop(int) " + I};

    private static String list(Class<?>[] types, String between) {
        return String.join(between, Arrays.stream(types).map(Class::getSimpleName).toArray(String[]::new));
    }

    private static boolean isShown(Member member) {
        return !Modifier.isPrivate(member.getModifiers()) && !member.isSynthetic();
    }

    public static void main(String[] args) {
        Set<String> shown = new TreeSet<>();
        Set<String> hidden = new TreeSet<>();
        Set<String> names = new TreeSet<>();
        boolean isRight = Modifier.isPublic(ShapeTrees.class.getModifiers())
                && Modifier.isFinal(ShapeTrees.class.getModifiers());
        for (Field f : ShapeTrees.class.getDeclaredFields()) {
            if (isShown(f)) {
                shown.add(f.getType().getSimpleName() + " " + f.getName());
                isRight &= f.getModifiers() == (Modifier.PUBLIC | Modifier.STATIC | Modifier.FINAL);
            }
        }
        for (Constructor<?> c : ShapeTrees.class.getDeclaredConstructors()) {
            shown.add("new(" + list(c.getParameterTypes(), ",") + ")");
            isRight &= Modifier.isPublic(c.getModifiers());
        }
        for (Method m : ShapeTrees.class.getDeclaredMethods()) {
            if (isShown(m)) {
                shown.add((m.getReturnType().getSimpleName() + " " + m.getName() + "("
                        + list(m.getParameterTypes(), ",") + ") " + list(m.getExceptionTypes(), " ")).trim());
                names.add(m.getName());
                isRight &= m.getModifiers() == Modifier.PUBLIC;
            } else {
                hidden.add(m.getName());
            }
        }
        for (Class<?> inside : ShapeTrees.class.getDeclaredClasses()) {
            isRight &= Modifier.isStatic(inside.getModifiers());
            for (Method m : inside.getDeclaredMethods()) {
                hidden.add(m.getName());
            }
        }
        hidden.retainAll(names);
        Set<String> wanted = new TreeSet<>(Arrays.asList(FACE));
        if (!isRight || !hidden.isEmpty() || !shown.equals(wanted)) {
            System.out.println("the face is " + shown + ", due is " + wanted + "; modifiers are "
                    + (isRight ? "right" : "wrong") + "; hidden methods with names of the face: " + hidden);
            System.exit(1);
        }
        System.out.println("the face is as due");
    }
}
