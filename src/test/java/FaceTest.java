import java.lang.reflect.Constructor;
import java.lang.reflect.Method;
import java.lang.reflect.Modifier;
import java.util.ArrayList;
import java.util.Collections;
import java.util.List;
import java.util.regex.Matcher;
import java.util.regex.Pattern;

/** The public face is the document's, and nothing else of the class can be seen from outside. */
public final class FaceTest {
    /** As in "    public int pay(int tablet, int line, int amount) throws A, B;". */
    private static final Pattern METHOD = Pattern.compile(" *public (\\w+) (\\w+)\\((.*?)\\)(?: throws (.*))?;");
    private static final int METHOD_COUNT = 35;

    private static final Checks CHECKS = new Checks();

    public static void main(String[] args) {
        classIsPublicAndFinal();
        oneConstructor();
        methodsAreTheDocuments();
        noOtherMemberIsVisible();
        CHECKS.close("FaceTest");
    }

    private static void classIsPublicAndFinal() {
        int modifiers = TallyWax.class.getModifiers();
        CHECKS.equal("the class is public", true, Modifier.isPublic(modifiers));
        CHECKS.equal("the class is final", true, Modifier.isFinal(modifiers));
    }

    private static void oneConstructor() {
        Constructor<?>[] all = TallyWax.class.getDeclaredConstructors();
        CHECKS.equal("constructors", 1, all.length);
        CHECKS.equal("the constructor is public", true, Modifier.isPublic(all[0].getModifiers()));
        CHECKS.equal("parameters of the constructor", 0, all[0].getParameterCount());
    }

    private static void methodsAreTheDocuments() {
        List<String> want = methodsOfTheDocument();
        List<String> got = new ArrayList<>();
        for (Method method : TallyWax.class.getDeclaredMethods()) {
            if (!Modifier.isPrivate(method.getModifiers())) {
                CHECKS.equal(method + " is public", true, Modifier.isPublic(method.getModifiers()));
                CHECKS.equal(method + " is static", false, Modifier.isStatic(method.getModifiers()));
                got.add(signature(method));
            }
        }
        Collections.sort(want);
        Collections.sort(got);
        CHECKS.equal("the public methods", String.join("\n", want), String.join("\n", got));
    }

    private static List<String> methodsOfTheDocument() {
        List<String> methods = new ArrayList<>();
        for (String line : Page.ofDocument().section("The public face")) {
            Matcher method = METHOD.matcher(line);
            if (method.matches()) {
                methods.add(signature(method));
            }
        }
        CHECKS.equal("methods of the document's face", METHOD_COUNT, methods.size());
        return methods;
    }

    private static String signature(Matcher method) {
        StringBuilder text = new StringBuilder(method.group(2));
        // the names of the parameters are free
        text.append('(').append(method.group(3).replaceAll(" \\w+(, |$)", "$1").replace(", ", ",")).append("):");
        text.append(method.group(1));
        if (method.group(4) != null) {
            text.append(' ').append(method.group(4).replace(", ", " "));
        }
        return text.toString();
    }

    private static String signature(Method method) {
        List<String> parameters = new ArrayList<>();
        for (Class<?> type : method.getParameterTypes()) {
            parameters.add(type.getSimpleName());
        }
        StringBuilder text = new StringBuilder(method.getName());
        text.append('(').append(String.join(",", parameters)).append("):");
        text.append(method.getReturnType().getSimpleName());
        for (Class<?> type : method.getExceptionTypes()) {
            text.append(' ').append(type.getSimpleName());
        }
        return text.toString();
    }

    private static void noOtherMemberIsVisible() {
        for (java.lang.reflect.Field field : TallyWax.class.getDeclaredFields()) {
            CHECKS.equal(field + " is private", true, Modifier.isPrivate(field.getModifiers()));
        }
        List<String> publicNames = new ArrayList<>();
        for (Method method : TallyWax.class.getMethods()) {
            publicNames.add(method.getName());
        }
        for (Method method : TallyWax.class.getDeclaredMethods()) {
            if (Modifier.isPrivate(method.getModifiers())) {
                CHECKS.equal(method + " bears a public name", false, publicNames.contains(method.getName()));
            }
        }
    }
}
