import java.io.IOException;
import java.lang.reflect.Method;
import java.lang.reflect.Modifier;
import java.nio.file.Files;
import java.nio.file.Path;
import java.util.ArrayList;
import java.util.List;
import java.util.Set;
import java.util.TreeSet;
import java.util.regex.Matcher;
import java.util.regex.Pattern;
import java.util.stream.Stream;

/** What README.md says of calls and answers is what the class answers, and what it lists is what there is. */
public final class ReadmeTest {
    private static final Check CHECK = new Check("ReadmeTest");
    private static final Pattern NEW = Pattern.compile("StiltYard x = new StiltYard\\(\\);");
    private static final Pattern WRITE = Pattern.compile("for \\(char c : \"([^\"]*)\"\\.toCharArray\\(\\)\\) x\\.letter\\(c\\);");
    private static final Pattern CALL = Pattern.compile("x\\.(\\w+)\\(([^)]*)\\); *// (-?\\w+): .*");
    private static final Pattern NAMED = Pattern.compile("`([A-Z]+)`");
    private static final List<String> REFUSALS = List.of("UNKNOWN", "OUTSIDE", "STATE", "FULL");
    private static final int[] NUMBERS = {-1, 0, 1, 2, 3, 4, 5, 9, 10, 13, 14, 32, 61, 127};

    public static void main(String[] args) throws IOException, ReflectiveOperationException {
        List<String> lines = Files.readAllLines(Path.of("README.md"));
        examples(lines);
        kinds(lines);
        calls(lines);
        innerClasses(lines);
        tests(lines);
        CHECK.end();
    }

    private static void same(String what, Object got, Object want) {
        if (!want.equals(got)) {
            System.out.println(what + ": " + got + ", due is " + want);
            CHECK.due(what, 0, 1);
        }
    }

    private static void examples(List<String> lines) throws ReflectiveOperationException {
        Set<String> shown = new TreeSet<>();
        StiltYard x = null;
        boolean inside = false;
        for (String line : lines) {
            if (line.startsWith("```")) {
                inside = line.equals("```java");
            } else if (inside && NEW.matcher(line).matches()) {
                x = new StiltYard();
            } else if (inside) {
                shown.add(example(x, line));
            }
        }
        same("calls that an example shows", shown, faceNames());
    }

    /** One line of an example, made as it stands; answers which call it shows. */
    private static String example(StiltYard x, String line) throws ReflectiveOperationException {
        Matcher write = WRITE.matcher(line);
        if (write.matches()) {
            Check.write(x, write.group(1));
            return "letter";
        }
        Matcher call = CALL.matcher(line);
        if (!call.matches()) {
            same("an example", line, "a call with its answer");
            return "";
        }
        Method method = face(call.group(1));
        Object[] arguments = arguments(method, call.group(2));
        long got = ((Number) method.invoke(x, arguments)).longValue();
        CHECK.due(line, got, numberOf(call.group(3)));
        return method.getName();
    }

    private static Object[] arguments(Method method, String told) {
        String[] parts = told.isEmpty() ? new String[0] : told.split(", ");
        Object[] arguments = new Object[parts.length];
        for (int i = 0; i < parts.length; i++) {
            boolean isTruth = method.getParameterTypes()[i] == boolean.class;
            arguments[i] = isTruth ? (Object) Boolean.valueOf(parts[i]) : (Object) Integer.valueOf(parts[i]);
        }
        return arguments;
    }

    private static long numberOf(String answer) throws ReflectiveOperationException {
        return answer.matches("-?\\d+") ? Long.parseLong(answer) : StiltYard.class.getField(answer).getInt(null);
    }

    private static Method face(String name) {
        for (Method method : StiltYard.class.getDeclaredMethods()) {
            if (Modifier.isPublic(method.getModifiers()) && method.getName().equals(name)) {
                return method;
            }
        }
        throw new IllegalStateException("README.md shows a call that there is not: " + name);
    }

    private static Set<String> faceNames() {
        Set<String> names = new TreeSet<>();
        for (Method method : StiltYard.class.getDeclaredMethods()) {
            if (Modifier.isPublic(method.getModifiers())) {
                names.add(method.getName());
            }
        }
        return names;
    }

    /** The cells of the rows of the table that begins with such a row. */
    private static List<String[]> table(List<String> lines, String head) {
        List<String[]> rows = new ArrayList<>();
        int begin = lines.indexOf(head);
        same("there is a table " + head, begin >= 0, true);
        for (int i = begin + 2; begin >= 0 && i < lines.size() && lines.get(i).startsWith("| "); i++) {
            rows.add(lines.get(i).substring(2).split(" \\| ?", -1));
        }
        return rows;
    }

    private static String unquoted(String cell) {
        return cell.replace("`", "");
    }

    private static void kinds(List<String> lines) {
        List<String[]> rows = table(lines,
            "| letter | kind | what it is | sway grows by a step of 1, 2, 3 there | on the spot |");
        CHECK.due("rows of kinds", rows.size(), 5);
        for (String[] row : rows) {
            StiltYard x = Check.yard(unquoted(row[0]).repeat(4) + ";1");
            String grows = x.about(1, 1) + ", " + x.about(1, 2) + ", " + x.about(1, 3);
            same(row[0] + " kind", row[1], String.valueOf(x.about(1, 0)));
            same(row[0] + " grows", row[3], grows);
            same(row[0] + " on the spot", row[4], String.valueOf(x.about(1, 4) - 2));
        }
    }

    private static void calls(List<String> lines) throws ReflectiveOperationException {
        Set<String> told = new TreeSet<>();
        for (String[] row : table(lines, "| call | what it does, and answers | refused |")) {
            String call = unquoted(row[0]);
            Method method = face(call.substring(0, call.indexOf('(')));
            told.add(method.getName());
            String inside = call.substring(call.indexOf('(') + 1, call.indexOf(')'));
            int parameters = inside.isEmpty() ? 0 : inside.split(", ").length;
            CHECK.due("parameters of " + call, parameters, method.getParameterCount());
            same("refusals of " + call, namesIn(row[2]), refusalsOf(method));
        }
        same("calls that the table tells", told, faceNames());
    }

    private static List<String> namesIn(String cell) {
        List<String> names = new ArrayList<>();
        Matcher named = NAMED.matcher(cell);
        while (named.find()) {
            names.add(named.group(1));
        }
        return names;
    }

    /** All refusals that the call answers for any numbers in any sort of state. */
    private static List<String> refusalsOf(Method method) throws ReflectiveOperationException {
        Set<Long> answers = new TreeSet<>();
        int parameters = method.getParameterCount();
        int tries = (int) Math.pow(NUMBERS.length, parameters);
        for (int state = 0; state < 5; state++) {
            for (int one = 0; one < tries; one += parameters > 3 ? 3 : 1) {
                answers.add(((Number) method.invoke(inState(state), numbers(method, one))).longValue());
            }
        }
        List<String> refusals = new ArrayList<>();
        for (String name : REFUSALS) {
            if (answers.contains(numberOf(name)) && !method.getName().equals("digest")) {
                refusals.add(name);
            }
        }
        return refusals;
    }

    private static Object[] numbers(Method method, int one) {
        Object[] arguments = new Object[method.getParameterCount()];
        int rest = one;
        for (int i = 0; i < arguments.length; i++) {
            int number = NUMBERS[rest % NUMBERS.length];
            rest /= NUMBERS.length;
            boolean isTruth = method.getParameterTypes()[i] == boolean.class;
            arguments[i] = isTruth ? (Object) (number > 0) : (Object) number;
        }
        return arguments;
    }

    private static StiltYard inState(int state) {
        switch (state) {
            case 0:
                return new StiltYard();
            case 1:
                return Check.page("pppp;5pppp;5pppp");
            case 2:
                return Check.yard("plgbop;6");
            case 3:
                StiltYard atEnd = Check.yard("pppp;1");
                atEnd.step(3);
                return atEnd;
            default:
                StiltYard hearing = Check.yard("plgbop;6");
                for (int i = 0; i < 6; i++) {
                    hearing.hear(1, 2, 11, true);
                }
                return hearing;
        }
    }

    private static void innerClasses(List<String> lines) {
        Set<String> told = new TreeSet<>();
        for (String[] row : table(lines, "| class inside | what it is for |")) {
            told.add(unquoted(row[0]));
        }
        Set<String> are = new TreeSet<>();
        for (Class<?> c : StiltYard.class.getDeclaredClasses()) {
            are.add(c.getSimpleName());
        }
        same("classes inside", told, are);
    }

    private static void tests(List<String> lines) throws IOException {
        Set<String> told = new TreeSet<>();
        for (String[] row : table(lines, "| test | promises |")) {
            told.add(unquoted(row[0]) + ".java");
        }
        Set<String> are = new TreeSet<>();
        try (Stream<Path> files = Files.list(Path.of("src/test/java"))) {
            files.map(file -> file.getFileName().toString()).filter(name -> name.endsWith("Test.java")).forEach(are::add);
        }
        same("tests", told, are);
    }
}
