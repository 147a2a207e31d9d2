import java.lang.reflect.Constructor;
import java.lang.reflect.Field;
import java.lang.reflect.Method;
import java.lang.reflect.Modifier;
import java.util.ArrayList;
import java.util.Collections;
import java.util.List;

/** The class shows the document's face and nothing else. */
public final class FaceTest {
    private static final String[] FACE = {
        "addAddress(int):int", "join(int,int):int", "addPerson(int,int):int", "setFlags(int,int):int",
        "move(int,int):int", "suppress(int,char):char", "allow(int):char", "addressOf(int):int",
        "reasonOf(int):char", "strikes(int):int", "addTemplate():int", "addPart(int,int,int,int):int",
        "pagesFor(int,int):int", "buyPaper(int):int", "buyEnvelopes(boolean,int):int", "paper():int",
        "envelopes(boolean):int", "run(int,boolean):int", "preview(int,boolean,int):char",
        "previewAlone(int,boolean,int):char", "outcome(int,int):char", "comesBack(int,int,char):int",
        "setBound(int):int", "letters(int):int", "postedAt(int,int):int", "onRoute(int,int):int",
        "postage(int,int):int", "costOf(int):long", "proofAt(int,int):int", "returnShare():float",
        "meanPages():double", "isSound():boolean",
    };

    public static void main(String[] args) {
        Check.same("public and final", Mailmerge.class.getModifiers(), Modifier.PUBLIC | Modifier.FINAL);
        checkMethods();
        checkConstructors();
        checkFields();
        checkClassesInside();
        Check.end("FaceTest");
    }

    private static void checkMethods() {
        List<String> shown = new ArrayList<>();
        List<String> shownNames = new ArrayList<>();
        for (Method method : Mailmerge.class.getDeclaredMethods()) {
            if (!Modifier.isPrivate(method.getModifiers())) {
                shown.add(signature(method));
                shownNames.add(method.getName());
                Check.same(method.getName() + " is public", method.getModifiers(), Modifier.PUBLIC);
            }
        }
        List<String> due = new ArrayList<>(List.of(FACE));
        Collections.sort(due);
        Collections.sort(shown);
        Check.same("the methods", shown, due);
        for (Method method : Mailmerge.class.getDeclaredMethods()) {
            if (Modifier.isPrivate(method.getModifiers())) {
                Check.same("a private " + method.getName(), shownNames.contains(method.getName()), false);
            }
        }
    }

    private static String signature(Method method) {
        StringBuilder text = new StringBuilder(method.getName()).append('(');
        String gap = "";
        for (Class<?> kind : method.getParameterTypes()) {
            text.append(gap).append(kind.getName());
            gap = ",";
        }
        return text.append("):").append(method.getReturnType().getName()).toString();
    }

    private static void checkConstructors() {
        Constructor<?>[] all = Mailmerge.class.getDeclaredConstructors();
        Check.same("constructors", all.length, 1);
        Check.same("its modifiers", all[0].getModifiers(), Modifier.PUBLIC);
        Check.same("its parameters", all[0].getParameterCount(), 0);
    }

    private static void checkFields() {
        for (Field field : Mailmerge.class.getDeclaredFields()) {
            int modifiers = field.getModifiers();
            Check.same(field.getName() + " is private", Modifier.isPrivate(modifiers), true);
            Check.same(field.getName() + " static and not final",
                    Modifier.isStatic(modifiers) && !Modifier.isFinal(modifiers), false);
        }
    }

    private static void checkClassesInside() {
        for (Class<?> inside : Mailmerge.class.getDeclaredClasses()) {
            int modifiers = inside.getModifiers();
            Check.same(inside.getName() + " is static", Modifier.isStatic(modifiers), true);
            Check.same(inside.getName() + " is shown",
                    Modifier.isPublic(modifiers) || Modifier.isProtected(modifiers), false);
        }
    }
}
