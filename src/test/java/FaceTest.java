import java.lang.reflect.Constructor;
import java.lang.reflect.Method;
import java.lang.reflect.Modifier;
import java.util.ArrayList;
import java.util.Collections;
import java.util.List;

/** The public face is the document's, and nothing else of the class can be seen from outside. */
public final class FaceTest {
    private static final String[] METHODS = {
        "addTablet(int):int IllegalArgumentException IllegalStateException",
        "write(int,int,int,int,int):int IndexOutOfBoundsException IllegalArgumentException IllegalStateException",
        "pay(int,int,int):int IndexOutOfBoundsException IllegalArgumentException",
        "deny(int,int):int IndexOutOfBoundsException IllegalStateException",
        "smooth(int):int IndexOutOfBoundsException IllegalStateException",
        "turn(int):boolean IndexOutOfBoundsException",
        "carry(int):boolean IndexOutOfBoundsException",
        "setHeat(int,int):int IndexOutOfBoundsException IllegalArgumentException",
        "pass(int):int IllegalArgumentException",
        "year():int",
        "tablets():int",
        "lines():int",
        "melted():int",
        "denied():int",
        "isThere(int):boolean IndexOutOfBoundsException",
        "linesOf(int):int IndexOutOfBoundsException",
        "isInCellar(int):boolean IndexOutOfBoundsException",
        "debtorOf(int,int):int IndexOutOfBoundsException",
        "creditorOf(int,int):int IndexOutOfBoundsException",
        "amountOf(int,int):int IndexOutOfBoundsException",
        "isWitnessed(int,int):boolean IndexOutOfBoundsException",
        "has(int):int IndexOutOfBoundsException",
        "hasOn(int,int):int IndexOutOfBoundsException",
        "owes(int,int):int IndexOutOfBoundsException",
        "total():int",
        "richest():int",
        "owesAlong(int):int IndexOutOfBoundsException",
        "isRound():boolean",
        "linesSmoothed(int):int IndexOutOfBoundsException",
        "bestToSmooth():int",
        "atRisk(int):int IndexOutOfBoundsException",
        "yearsUntilMelted(int):int IndexOutOfBoundsException",
        "meltsIn(int):int IllegalArgumentException",
        "meanAmount():double",
        "digest():long",
    };

    private static final Checks CHECKS = new Checks();

    public static void main(String[] args) {
        classIsPublicAndFinal();
        oneConstructor();
        methodsAreTheDocuments();
        noOtherMemberIsVisible();
        CHECKS.close("FaceTest");
    }

    private static void classIsPublicAndFinal() {
        int modifiers = TallyWax.class.getModifiers();
        CHECKS.equal("the class is public", true, Modifier.isPublic(modifiers));
        CHECKS.equal("the class is final", true, Modifier.isFinal(modifiers));
    }

    private static void oneConstructor() {
        Constructor<?>[] all = TallyWax.class.getDeclaredConstructors();
        CHECKS.equal("constructors", 1, all.length);
        CHECKS.equal("the constructor is public", true, Modifier.isPublic(all[0].getModifiers()));
        CHECKS.equal("parameters of the constructor", 0, all[0].getParameterCount());
    }

    private static void methodsAreTheDocuments() {
        List<String> want = new ArrayList<>(List.of(METHODS));
        List<String> got = new ArrayList<>();
        for (Method method : TallyWax.class.getDeclaredMethods()) {
            if (!Modifier.isPrivate(method.getModifiers())) {
                CHECKS.equal(method + " is public", true, Modifier.isPublic(method.getModifiers()));
                CHECKS.equal(method + " is static", false, Modifier.isStatic(method.getModifiers()));
                got.add(signature(method));
            }
        }
        Collections.sort(want);
        Collections.sort(got);
        CHECKS.equal("the public methods", String.join("\n", want), String.join("\n", got));
    }

    private static String signature(Method method) {
        List<String> parameters = new ArrayList<>();
        for (Class<?> type : method.getParameterTypes()) {
            parameters.add(type.getSimpleName());
        }
        StringBuilder text = new StringBuilder(method.getName());
        text.append('(').append(String.join(",", parameters)).append("):");
        text.append(method.getReturnType().getSimpleName());
        for (Class<?> type : method.getExceptionTypes()) {
            text.append(' ').append(type.getSimpleName());
        }
        return text.toString();
    }

    private static void noOtherMemberIsVisible() {
        for (java.lang.reflect.Field field : TallyWax.class.getDeclaredFields()) {
            CHECKS.equal(field + " is private", true, Modifier.isPrivate(field.getModifiers()));
        }
        List<String> publicNames = new ArrayList<>();
        for (Method method : TallyWax.class.getMethods()) {
            publicNames.add(method.getName());
        }
        for (Method method : TallyWax.class.getDeclaredMethods()) {
            if (Modifier.isPrivate(method.getModifiers())) {
                CHECKS.equal(method + " bears a public name", false, publicNames.contains(method.getName()));
            }
        }
    }
}
