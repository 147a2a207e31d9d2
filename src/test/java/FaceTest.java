import java.io.IOException;
import java.lang.reflect.Constructor;
import java.lang.reflect.Field;
import java.lang.reflect.Method;
import java.lang.reflect.Modifier;
import java.nio.charset.StandardCharsets;
import java.nio.file.Files;
import java.nio.file.Path;
import java.util.ArrayList;
import java.util.Collections;
import java.util.List;
import java.util.regex.Matcher;
import java.util.regex.Pattern;

/** The class shows the document's face and nothing else. */
public final class FaceTest {
    private static final Path DOCUMENT = Path.of("..", "shared", "DOC.md");
    private static final Pattern METHOD = Pattern.compile("(?m)^    public (\\w+ .*);$");
    /** A name before a comma or the closing bracket; those behind the bracket are exceptions. */
    private static final Pattern PARAMETER_NAME = Pattern.compile(" \\w+(?=[,)])(?=.*\\))");

    public static void main(String[] args) throws IOException {
        Check.same("public and final", Mailmerge.class.getModifiers(), Modifier.PUBLIC | Modifier.FINAL);
        checkMethods();
        checkConstructors();
        checkFields();
        checkClassesInside();
        Check.end("FaceTest");
    }

    private static void checkMethods() throws IOException {
        List<String> shown = new ArrayList<>();
        List<String> shownNames = new ArrayList<>();
        for (Method method : Mailmerge.class.getDeclaredMethods()) {
            if (!Modifier.isPrivate(method.getModifiers())) {
                shown.add(signature(method));
                shownNames.add(method.getName());
                Check.same(method.getName() + " is public", method.getModifiers(), Modifier.PUBLIC);
            }
        }
        Collections.sort(shown);
        Check.same("the methods", shown, methodsOfTheDocument());
        for (Method method : Mailmerge.class.getDeclaredMethods()) {
            if (Modifier.isPrivate(method.getModifiers())) {
                Check.same("a private " + method.getName(), shownNames.contains(method.getName()), false);
            }
        }
    }

    /** As the document writes it, but for the names of the parameters. */
    private static String signature(Method method) {
        String text = method.getReturnType().getName() + " " + method.getName()
                + "(" + namesOf(method.getParameterTypes()) + ")";
        Class<?>[] thrown = method.getExceptionTypes();
        return thrown.length == 0 ? text : text + " throws " + namesOf(thrown);
    }

    private static String namesOf(Class<?>[] kinds) {
        List<String> names = new ArrayList<>();
        for (Class<?> kind : kinds) {
            names.add(kind.getSimpleName());
        }
        return String.join(", ", names);
    }

    private static List<String> methodsOfTheDocument() throws IOException {
        List<String> due = new ArrayList<>();
        Matcher line = METHOD.matcher(Files.readString(DOCUMENT, StandardCharsets.UTF_8));
        while (line.find()) {
            due.add(PARAMETER_NAME.matcher(line.group(1)).replaceAll(""));
        }
        Check.same("methods in the document", due.size(), 32);
        Collections.sort(due);
        return due;
    }

    private static void checkConstructors() {
        Constructor<?>[] all = Mailmerge.class.getDeclaredConstructors();
        Check.same("constructors", all.length, 1);
        Check.same("its modifiers", all[0].getModifiers(), Modifier.PUBLIC);
        Check.same("its parameters", all[0].getParameterCount(), 0);
    }

    private static void checkFields() {
        for (Field field : Mailmerge.class.getDeclaredFields()) {
            int modifiers = field.getModifiers();
            Check.same(field.getName() + " is private", Modifier.isPrivate(modifiers), true);
            Check.same(field.getName() + " static and not final",
                    Modifier.isStatic(modifiers) && !Modifier.isFinal(modifiers), false);
        }
    }

    private static void checkClassesInside() {
        for (Class<?> inside : Mailmerge.class.getDeclaredClasses()) {
            int modifiers = inside.getModifiers();
            Check.same(inside.getName() + " is static", Modifier.isStatic(modifiers), true);
            Check.same(inside.getName() + " is shown",
                    Modifier.isPublic(modifiers) || Modifier.isProtected(modifiers), false);
        }
    }
}
