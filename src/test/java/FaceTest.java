import java.io.IOException;
import java.lang.reflect.Constructor;
import java.lang.reflect.Field;
import java.lang.reflect.Method;
import java.lang.reflect.Modifier;
import java.nio.file.Files;
import java.nio.file.Path;
import java.util.ArrayList;
import java.util.Arrays;
import java.util.List;
import java.util.TreeSet;
import java.util.regex.Matcher;
import java.util.regex.Pattern;

/** The public face is the document's, and nothing beside it can be seen. */
public final class FaceTest {

    private static final String INDEX = "IndexOutOfBoundsException";
    private static final String ARGUMENT = "IllegalArgumentException";
    private static final String BOTH = INDEX + "," + ARGUMENT;

    private static final String[] FACE = {
        "int setScale 2 " + ARGUMENT,
        "void setNudging 3 " + ARGUMENT,
        "int sing 2 " + BOTH,
        "int slide 4 " + BOTH,
        "int rest 1 " + INDEX,
        "int rungs 0 ",
        "int nearest 1 " + ARGUMENT,
        "int rung 1 " + INDEX,
        "int stepOf 1 " + ARGUMENT,
        "int rungOf 1 " + INDEX,
        "int nudgeOf 1 " + INDEX,
        "int framesOf 1 " + INDEX,
        "int changesOf 1 " + INDEX,
        "int leapsOf 1 " + INDEX,
        "int cleanOf 1 " + INDEX,
        "int framesToRung 2 " + BOTH,
        "int sung 1 " + INDEX,
        "int bestKey 1 " + ARGUMENT,
        "int within 2 " + ARGUMENT,
        "int inOctaves 0 ",
    };

    public static void main(String[] args) throws IOException {
        Check.holds("the class is public", Modifier.isPublic(TunedWrens.class.getModifiers()));
        Check.holds("the class is final", Modifier.isFinal(TunedWrens.class.getModifiers()));
        methods();
        constructors();
        fields();
        textIsTheDocuments();
        Check.end();
    }

    private static void methods() {
        TreeSet<String> seen = new TreeSet<>();
        List<String> publicNames = new ArrayList<>();
        List<String> privateNames = new ArrayList<>();
        for (Method method : TunedWrens.class.getDeclaredMethods()) {
            if (Modifier.isPrivate(method.getModifiers())) {
                privateNames.add(method.getName());
                continue;
            }
            Check.holds(method + " is public", Modifier.isPublic(method.getModifiers()));
            Check.holds(method + " is of the object", !Modifier.isStatic(method.getModifiers()));
            for (Class<?> type : method.getParameterTypes()) {
                Check.holds(method + " takes ints", type == int.class);
            }
            publicNames.add(method.getName());
            seen.add(line(method));
        }
        Check.holds("the methods " + seen + " are the document's", seen.equals(new TreeSet<>(Arrays.asList(FACE))));
        privateNames.retainAll(publicNames);
        Check.holds("no private method bears a public name: " + privateNames, privateNames.isEmpty());
    }

    private static String line(Method method) {
        StringBuilder thrown = new StringBuilder();
        for (Class<?> type : method.getExceptionTypes()) {
            thrown.append(thrown.length() == 0 ? "" : ",").append(type.getSimpleName());
        }
        return method.getReturnType() + " " + method.getName() + " " + method.getParameterCount() + " " + thrown;
    }

    private static void constructors() {
        Constructor<?>[] all = TunedWrens.class.getDeclaredConstructors();
        Check.same("constructors", all.length, 1);
        Check.same("what it takes", all[0].getParameterCount(), 0);
        Check.holds("it is public", Modifier.isPublic(all[0].getModifiers()));
    }

    private static void fields() {
        for (Field field : TunedWrens.class.getDeclaredFields()) {
            Check.holds(field + " is private", Modifier.isPrivate(field.getModifiers()));
            if (Modifier.isStatic(field.getModifiers())) {
                Check.holds(field + " is final", Modifier.isFinal(field.getModifiers()));
            }
        }
    }

    /** The headings and the calls stand in the class as the document has them, with the same names, in its order. */
    private static void textIsTheDocuments() throws IOException {
        String document = Files.readString(Path.of("../shared/DOC.md"));
        String face = document.replaceAll("(?s).*```java(.*?)```.*", "$1").replace(";", " {");
        Matcher ahead = Pattern.compile("Ahead of the calls `(\\w+)`.* says: (---- .*)\\.").matcher(document);
        while (ahead.find()) {
            face = face.replaceFirst("(?m)^(?=.* " + ahead.group(1) + "\\()", "    // " + ahead.group(2) + "\n");
        }
        String source = Files.readString(Path.of("src/main/java/TunedWrens.java"));
        Check.alike("the text of the face", faceLines(source), faceLines(face));
        Check.same("its headings", faceLines(face).split("// ---- ").length, 6);
    }

    private static String faceLines(String code) {
        StringBuilder lines = new StringBuilder();
        Matcher line = Pattern.compile("public [^{]*\\{|// ---- .*").matcher(code);
        while (line.find()) {
            lines.append(line.group().replaceAll("\\s+", " ")).append("\n");
        }
        return lines.toString();
    }
}
