import java.io.IOException;
import java.lang.reflect.Constructor;
import java.lang.reflect.Field;
import java.lang.reflect.Method;
import java.lang.reflect.Modifier;
import java.nio.file.Files;
import java.nio.file.Path;
import java.util.Arrays;
import java.util.Set;
import java.util.TreeSet;

/** The public face, and the rules of LANGUAGE.md that can be read off the class. */
public final class FaceTest {
    private static final Check CHECK = new Check("FaceTest");
    private static final String[] FACE = {
        "int letter(int)", "int blank()", "int fault()", "int yard()",
        "int about(int, int)", "int as(int, int)", "int lay(int, int)",
        "int blocks(int)", "int step(int)", "int would(int)",
        "int quick(int)", "int high()", "int mend(int)",
        "int hear(int, int, int, boolean)", "int forget()", "int heights()", "int races(int, int, int)",
        "int image()", "int restore()", "int count(int)", "long digest()",
    };

    public static void main(String[] args) throws IOException {
        constants();
        members();
        innerClasses();
        forbiddenWords();
        CHECK.end();
    }

    private static void same(String what, Object got, Object want) {
        if (!want.equals(got)) {
            System.out.println(what + ": " + got + ", due is " + want);
            CHECK.due(what, 0, 1);
        }
    }

    private static void constants() {
        CHECK.due("NONE", StiltYard.NONE, -1);
        CHECK.due("UNKNOWN", StiltYard.UNKNOWN, -101);
        CHECK.due("OUTSIDE", StiltYard.OUTSIDE, -102);
        CHECK.due("STATE", StiltYard.STATE, -103);
        CHECK.due("FULL", StiltYard.FULL, -104);
    }

    private static void members() {
        CHECK.due("final", Modifier.isFinal(StiltYard.class.getModifiers()) ? 1 : 0, 1);
        Set<String> methods = new TreeSet<>();
        Set<String> names = new TreeSet<>();
        for (Method m : StiltYard.class.getDeclaredMethods()) {
            if (!Modifier.isPrivate(m.getModifiers())) {
                String params = Arrays.toString(m.getParameterTypes());
                methods.add(m.getReturnType() + " " + m.getName() + "(" + params.substring(1, params.length() - 1) + ")");
                names.add(m.getName());
            }
        }
        same("the methods", methods, new TreeSet<>(Arrays.asList(FACE)));
        for (Method m : StiltYard.class.getDeclaredMethods()) {
            if (Modifier.isPrivate(m.getModifiers())) {
                same("a private method named as a public one", names.contains(m.getName()), false);
            }
        }
        Set<String> fields = new TreeSet<>();
        for (Field f : StiltYard.class.getDeclaredFields()) {
            if (!Modifier.isPrivate(f.getModifiers())) {
                fields.add(f.getName());
            }
        }
        same("the constants", fields, new TreeSet<>(Arrays.asList("NONE", "UNKNOWN", "OUTSIDE", "STATE", "FULL")));
        Constructor<?>[] constructors = StiltYard.class.getDeclaredConstructors();
        same("constructors", constructors.length, 1);
        same("public constructor", Modifier.isPublic(constructors[0].getModifiers()), true);
        same("its parameters", constructors[0].getParameterCount(), 0);
    }

    private static void innerClasses() {
        for (Class<?> c : StiltYard.class.getDeclaredClasses()) {
            int m = c.getModifiers();
            same(c.getName() + " is static", Modifier.isStatic(m) || c.isInterface(), true);
            same(c.getName() + " is seen outside", Modifier.isPublic(m) || Modifier.isProtected(m), false);
            for (Field f : c.getDeclaredFields()) {
                if (Modifier.isStatic(f.getModifiers())) {
                    same(f + " is final", Modifier.isFinal(f.getModifiers()), true);
                }
            }
        }
    }

    /** Signs of what the rules leave out; the code alone is looked at, not its comments. */
    private static void forbiddenWords() throws IOException {
        String code = Files.readString(Path.of("src/main/java/StiltYard.java"))
            .replaceAll("(?s)/\\*.*?\\*/", "").replaceAll("//[^\n]*", "");
        String[] words = {"import ", "package ", "->", "::", "catch", "finally", "synchronized", "assert", "Exact",
            "System.", "hashCode", "toString", "try {", "static {", "volatile", "native", "throw "};
        for (String word : words) {
            same("the code has '" + word + "'", code.contains(word), false);
        }
    }
}
