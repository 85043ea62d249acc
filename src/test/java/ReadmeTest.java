import java.io.IOException;
import java.lang.reflect.Method;
import java.nio.file.Files;
import java.nio.file.Path;
import java.util.TreeSet;
import java.util.regex.Matcher;
import java.util.regex.Pattern;

/** README.md tells every call of the class, with its arguments and what it throws, and its example is right. */
public final class ReadmeTest {

    private static final Pattern ENTRY = Pattern.compile("(?m)^- `(\\w+) (\\w+)\\((.*?)\\)`:((?:\n(?!- |#).*|.)*)");
    private static final Pattern EXCEPTION = Pattern.compile("`(\\w+Exception)`");
    private static final Pattern EXAMPLE = Pattern.compile("(?m)^wrens\\.(\\w+)\\((.*?)\\);(?: *// (-?\\d+))?$");

    public static void main(String[] args) throws IOException, ReflectiveOperationException {
        String page = Files.readString(Path.of("README.md"));
        Check.holds("the constructor is told", page.contains("- `TunedWrens()`: "));
        everyCall(page);
        theExample(page);
        theTests(page);
        Check.end();
    }

    private static void everyCall(String page) {
        TreeSet<String> told = new TreeSet<>();
        Matcher entry = ENTRY.matcher(page);
        while (entry.find()) {
            Method method = method(entry.group(2));
            String name = entry.group(2);
            Check.holds(name + " is told once", told.add(name));
            if (method == null) {
                Check.tell("there is no call " + name);
                continue;
            }
            Check.alike("what " + name + " answers", entry.group(1), method.getReturnType().getName());
            arguments(name, entry.group(3), entry.group(4), method);
            Check.holds("the answer of " + name, entry.group(4).contains("\n  - Answer: "));
            Check.alike("what " + name + " throws", toldExceptions(entry.group(4)), exceptions(method));
        }
        for (Method method : TunedWrens.class.getDeclaredMethods()) {
            boolean hidden = java.lang.reflect.Modifier.isPrivate(method.getModifiers());
            Check.holds(method.getName() + " is told", hidden || told.contains(method.getName()));
        }
    }

    private static Method method(String name) {
        for (Method method : TunedWrens.class.getDeclaredMethods()) {
            if (method.getName().equals(name)) {
                return method;
            }
        }
        return null;
    }

    private static void arguments(String name, String list, String text, Method method) {
        String[] all = list.isEmpty() ? new String[0] : list.split(", ");
        Check.same("the arguments of " + name, all.length, method.getParameterCount());
        String told = text.replaceAll("(?s).*\n  - Arguments: (.*?)\n  - .*", "$1");
        if (all.length == 0) {
            Check.alike("the arguments of " + name, told, "none.");
        }
        for (String argument : all) {
            Check.holds(argument + " of " + name, argument.matches("int \\w+"));
            Check.holds(argument + " of " + name + " is told", told.contains("`" + argument.substring(4) + "` "));
        }
    }

    private static String toldExceptions(String text) {
        String told = text.substring(Math.max(0, text.indexOf("\n  - Throws ")));
        StringBuilder all = new StringBuilder();
        Matcher exception = EXCEPTION.matcher(told);
        while (exception.find()) {
            all.append(exception.group(1)).append(' ');
        }
        return told.contains("Throws nothing.") ? "nothing" : all.toString();
    }

    private static String exceptions(Method method) {
        StringBuilder all = new StringBuilder();
        for (Class<?> type : method.getExceptionTypes()) {
            all.append(type.getSimpleName()).append(' ');
        }
        return all.length() == 0 ? "nothing" : all.toString();
    }

    private static void theExample(String page) throws ReflectiveOperationException {
        TunedWrens wrens = new TunedWrens();
        Matcher line = EXAMPLE.matcher(page);
        int lines = 0;
        while (line.find()) {
            lines++;
            String[] numbers = line.group(2).isEmpty() ? new String[0] : line.group(2).split(", ");
            Object[] arguments = new Object[numbers.length];
            for (int argument = 0; argument < numbers.length; argument++) {
                arguments[argument] = Integer.valueOf(numbers[argument]);
            }
            Object answer = method(line.group(1)).invoke(wrens, arguments);
            String told = line.group(3) == null ? "null" : line.group(3);
            Check.alike("the example " + line.group(), String.valueOf(answer), told);
        }
        Check.holds("there is an example", lines > 5);
    }

    /** Each test has its row, and each row its test. */
    private static void theTests(String page) throws IOException {
        TreeSet<String> told = new TreeSet<>();
        Matcher row = Pattern.compile("(?m)^\\| `(\\w+)` \\| .+ \\|$").matcher(page);
        while (row.find()) {
            told.add(row.group(1) + ".java");
        }
        TreeSet<String> there = new TreeSet<>();
        try (java.util.stream.Stream<Path> files = Files.list(Path.of("src/test/java"))) {
            files.forEach(file -> there.add(file.getFileName().toString()));
        }
        there.remove("Check.java");
        Check.alike("the tests", told.toString(), there.toString());
    }
}
