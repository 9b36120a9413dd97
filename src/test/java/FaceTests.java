import java.io.IOException;
import java.lang.reflect.Constructor;
import java.lang.reflect.Method;
import java.lang.reflect.Modifier;
import java.nio.file.Files;
import java.nio.file.Path;
import java.util.Arrays;
import java.util.TreeSet;
import java.util.stream.Collectors;

/** The public face is the document's, with the throws clauses in their order, and nothing besides. */
final class FaceTests {
    private static final String BEGIN = "public final class NightPorter {";

    private FaceTests() {
    }

    static void allSignaturesAreTheDocuments() throws IOException {
        String document = Files.readString(Path.of(System.getProperty("document")));
        String face = document.substring(document.indexOf(BEGIN) + BEGIN.length());
        face = face.substring(0, face.indexOf("```"));
        TreeSet<String> due = new TreeSet<>();
        for (String line : face.split("\n")) {
            if (line.contains("(")) {
                due.add(line.strip().replaceAll("(int|boolean) \\w+(?=[,)])", "$1"));
            }
        }
        TreeSet<String> got = new TreeSet<>();
        for (Constructor<?> constructor : NightPorter.class.getDeclaredConstructors()) {
            got.add("public NightPorter();");
            Check.yes(Modifier.isPublic(constructor.getModifiers()) && constructor.getParameterCount() == 0);
        }
        for (Method method : NightPorter.class.getDeclaredMethods()) {
            if (Modifier.isPublic(method.getModifiers())) {
                got.add(signature(method));
            } else {
                Check.yes(Modifier.isPrivate(method.getModifiers()));
            }
        }
        Check.same(due.toString(), got.toString());
    }

    private static String signature(Method method) {
        String parameters = names(method.getParameterTypes());
        String thrown = names(method.getExceptionTypes());
        return "public " + method.getReturnType() + " " + method.getName() + "(" + parameters + ")"
            + (thrown.isEmpty() ? "" : " throws " + thrown) + ";";
    }

    private static String names(Class<?>[] types) {
        return Arrays.stream(types).map(Class::getSimpleName).collect(Collectors.joining(", "));
    }
}
