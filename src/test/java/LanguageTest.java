import java.io.DataInputStream;
import java.io.IOException;
import java.io.InputStream;
import java.lang.reflect.Constructor;
import java.lang.reflect.Executable;
import java.lang.reflect.Field;
import java.lang.reflect.Method;
import java.lang.reflect.Modifier;
import java.nio.file.Files;
import java.nio.file.Path;
import java.util.ArrayList;
import java.util.Arrays;
import java.util.List;
import java.util.Set;
import java.util.TreeSet;

/** The rules of LANGUAGE.md as far as the compiled classes and the words of the file show them. */
public final class LanguageTest extends Dues {
    private static final Set<String> LIBRARY = Set.of(
            "java/lang/Object.<init>", "java/util/ArrayList.<init>", "java/util/ArrayList.add",
            "java/util/ArrayList.get", "java/util/ArrayList.set", "java/util/ArrayList.size",
            "java/util/ArrayList.isEmpty", "java/util/ArrayList.clear", "java/util/ArrayList.remove",
            "java/lang/Math.max", "java/lang/Math.min", "java/lang/Math.abs", "java/lang/Math.floorMod",
            "java/lang/Math.floorDiv", "java/lang/Integer.compare", "java/lang/Integer.signum",
            "java/lang/Long.compare", "java/lang/Long.signum", "java/lang/System.arraycopy",
            "java/util/Arrays.fill", "java/util/Arrays.copyOf", "java/util/Arrays.copyOfRange",
            "java/lang/IllegalStateException.<init>", "java/lang/IllegalArgumentException.<init>",
            "java/lang/IndexOutOfBoundsException.<init>", "java/lang/UnsupportedOperationException.<init>");
    private static final String[] FORBIDDEN_WORDS = {
        "finally", "synchronized", "assert", "volatile", "->", "::", "Exact(", "package ", "double", "float"};
    private static final int METHOD_REF = 10;
    private static final int INTERFACE_METHOD_REF = 11;
    private static final int INVOKE_DYNAMIC = 18;

    private static List<Class<?>> classes() {
        List<Class<?>> all = new ArrayList<>(List.of(ShapeTrees.class));
        for (int i = 0; i < all.size(); i++) {
            all.addAll(Arrays.asList(all.get(i).getDeclaredClasses()));
        }
        return all;
    }

    /** The constants of a class file: texts, and numbers of other constants. */
    private static final class Pool {
        final String[] texts;
        final int[] kinds;
        final int[] firsts;
        final int[] seconds;

        Pool(DataInputStream in) throws IOException {
            in.skipNBytes(8);
            int n = in.readUnsignedShort();
            texts = new String[n];
            kinds = new int[n];
            firsts = new int[n];
            seconds = new int[n];
            for (int i = 1; i < n; i++) {
                kinds[i] = in.readUnsignedByte();
                read(in, i);
                // A long or double takes two numbers.
                i += kinds[i] == 5 || kinds[i] == 6 ? 1 : 0;
            }
        }

        private void read(DataInputStream in, int i) throws IOException {
            switch (kinds[i]) {
                case 1: texts[i] = in.readUTF(); break;
                case 3: case 4: in.readInt(); break;
                case 5: case 6: in.readLong(); break;
                case 7: case 8: case 16: case 19: case 20: firsts[i] = in.readUnsignedShort(); break;
                case 15: in.readUnsignedByte(); in.readUnsignedShort(); break;
                default:
                    firsts[i] = in.readUnsignedShort();
                    seconds[i] = in.readUnsignedShort();
            }
        }

        Set<String> calls() {
            Set<String> calls = new TreeSet<>();
            for (int i = 1; i < kinds.length; i++) {
                if (kinds[i] == METHOD_REF || kinds[i] == INTERFACE_METHOD_REF) {
                    calls.add(texts[firsts[firsts[i]]] + "." + texts[firsts[seconds[i]]]);
                } else if (kinds[i] == INVOKE_DYNAMIC) {
                    calls.add("a lambda, a method reference or a + of texts");
                }
            }
            calls.removeIf(s -> s.startsWith("ShapeTrees"));
            return calls;
        }
    }

    private static void library() {
        for (Class<?> c : classes()) {
            try (InputStream in = c.getResourceAsStream(c.getName() + ".class")) {
                Set<String> calls = new Pool(new DataInputStream(in)).calls();
                calls.removeAll(LIBRARY);
                dueText(c.getName() + " outside the library", "[]", "" + calls);
            } catch (IOException e) {
                dueText(c.getName(), "a class file", "" + e);
            }
        }
    }

    private static boolean isConstant(Field f) {
        Class<?> t = f.getType();
        boolean isPlain = t == int.class || t == long.class || t == boolean.class || t == char.class || t == String.class;
        boolean isRow = t == int[].class || t == long[].class || t == char[].class || t == byte[].class;
        return Modifier.isFinal(f.getModifiers()) && (isPlain || isRow && Modifier.isPrivate(f.getModifiers()));
    }

    private static void staticFields() {
        for (Class<?> c : classes()) {
            for (Field f : c.getDeclaredFields()) {
                if (Modifier.isStatic(f.getModifiers())) {
                    dueText(f + " is a constant", "true", "" + isConstant(f));
                }
            }
        }
    }

    private static void sizes() {
        dueText("at most twelve classes", "true", "" + (classes().size() <= 12));
        for (Class<?> c : classes()) {
            long fields = Arrays.stream(c.getDeclaredFields()).filter(f -> !Modifier.isStatic(f.getModifiers())).count();
            dueText(c + " has at most twenty fields", "true", "" + (fields <= 20));
            List<Executable> all = new ArrayList<>(Arrays.<Method>asList(c.getDeclaredMethods()));
            all.addAll(Arrays.<Constructor<?>>asList(c.getDeclaredConstructors()));
            for (Executable e : all) {
                dueText(e + " has at most seven parameters", "true", "" + (e.getParameterCount() <= 7));
            }
        }
    }

    private static void ownMethods() {
        Set<String> refused = Set.of("equals", "hashCode", "toString");
        for (Class<?> c : classes()) {
            for (Method m : c.getDeclaredMethods()) {
                dueText(m + " may stand there", "false", "" + refused.contains(m.getName()));
            }
        }
    }

    private static String source() {
        try {
            return Files.readString(Path.of("src/main/java/ShapeTrees.java"));
        } catch (IOException e) {
            return "";
        }
    }

    private static void words() {
        String code = source().replaceAll("(?s)/\\*.*?\\*/", "").replaceAll("//.*", "");
        dueText("the file has the class", "true", "" + code.contains("public final class ShapeTrees {"));
        for (String word : FORBIDDEN_WORDS) {
            dueText("the file has " + word, "false", "" + code.contains(word));
        }
    }

    public static void main(String[] args) {
        Watch.start();
        test("rules 2, 4, 6 and 10: the library, no lambda, no other exceptions", LanguageTest::library);
        test("rule 5: static fields are constants", LanguageTest::staticFields);
        test("rule 6: no equals, hashCode or toString", LanguageTest::ownMethods);
        test("rule 11: sizes", LanguageTest::sizes);
        test("words that no rule allows, or that this class does not need", LanguageTest::words);
        end();
    }
}
