import java.lang.reflect.Constructor;
import java.lang.reflect.Field;
import java.lang.reflect.Method;
import java.lang.reflect.Modifier;
import java.util.Arrays;
import java.util.List;
import java.util.TreeSet;
import java.util.stream.Collectors;

/** "The public face" of the document: all of it, and nothing beside it. */
final class FaceTest {
    private static final Due DUE = new Due("FaceTest");
    private static final List<String> METHODS = List.of(
        "int go(int)",
        "boolean roles(int, int)",
        "boolean mark(int, int, int)",
        "boolean thing(int, int, int)",
        "boolean sort(int, int, int)",
        "int rule(int, int, int, int)",
        "boolean unrule(int, int)",
        "int ask(int)",
        "int behalf(int, int)",
        "int why(int, int)",
        "int facts(int)",
        "boolean judge(int, int, int)",
        "int judged(int, int)",
        "int keeps(int)",
        "int law(int, int)",
        "boolean idle(int, int)",
        "int quarrel(int, int, int)",
        "int log(int, int)",
        "int lost()",
        "boolean move(boolean)",
        "int count(int)");

    public static void main(String[] args) throws ReflectiveOperationException {
        classIsPublicAndFinal();
        methodsAreThoseOfTheDocument();
        constantIsThatOfTheDocument();
        constructorIsThatOfTheDocument();
        classesInsideAreHiddenAndStatic();
        DUE.end();
    }

    private static void classIsPublicAndFinal() {
        DUE.sentence("public final class AskTrust");
        int modifiers = AskTrust.class.getModifiers();
        DUE.yes("public", Modifier.isPublic(modifiers));
        DUE.yes("final", Modifier.isFinal(modifiers));
        DUE.yes("no package", AskTrust.class.getPackageName().isEmpty());
        DUE.yes("no class above it", AskTrust.class.getSuperclass() == Object.class);
        DUE.is("interfaces", AskTrust.class.getInterfaces().length, 0);
    }

    private static String signature(Method method) {
        String parameters = Arrays.stream(method.getParameterTypes())
            .map(Class::getName).collect(Collectors.joining(", "));
        return method.getReturnType().getName() + " " + method.getName() + "(" + parameters + ")";
    }

    private static void methodsAreThoseOfTheDocument() {
        DUE.sentence("The public face: its methods");
        TreeSet<String> open = new TreeSet<>();
        TreeSet<String> openNames = new TreeSet<>();
        for (Method method : AskTrust.class.getDeclaredMethods()) {
            if (!Modifier.isPrivate(method.getModifiers())) {
                DUE.yes(method + " is public", Modifier.isPublic(method.getModifiers()));
                DUE.no(method + " is static", Modifier.isStatic(method.getModifiers()));
                DUE.yes(method + " stands in the document", METHODS.contains(signature(method)));
                open.add(signature(method));
                openNames.add(method.getName());
            }
        }
        for (String method : METHODS) {
            DUE.yes(method + " is there", open.contains(method));
        }
        for (Method method : AskTrust.class.getDeclaredMethods()) {
            if (Modifier.isPrivate(method.getModifiers())) {
                DUE.no(method + " bears the name of a public one", openNames.contains(method.getName()));
            }
        }
    }

    private static void constantIsThatOfTheDocument() throws ReflectiveOperationException {
        DUE.sentence("NONE = -1: There is none.");
        for (Field field : AskTrust.class.getDeclaredFields()) {
            if (!Modifier.isPrivate(field.getModifiers())) {
                DUE.yes(field + " stands in the document", field.getName().equals("NONE"));
            }
        }
        Field none = AskTrust.class.getDeclaredField("NONE");
        DUE.is("modifiers of NONE", none.getModifiers(), Modifier.PUBLIC | Modifier.STATIC | Modifier.FINAL);
        DUE.yes("NONE is an int", none.getType() == int.class);
        DUE.is("NONE", none.getInt(null), -1);
    }

    private static void constructorIsThatOfTheDocument() {
        DUE.sentence("public AskTrust();");
        Constructor<?>[] constructors = AskTrust.class.getDeclaredConstructors();
        DUE.is("constructors", constructors.length, 1);
        for (Constructor<?> constructor : constructors) {
            DUE.yes("public", Modifier.isPublic(constructor.getModifiers()));
            DUE.is("parameters", constructor.getParameterCount(), 0);
        }
    }

    private static void classesInsideAreHiddenAndStatic() {
        DUE.sentence("LANGUAGE.md 1 and 2: classes inside are private or package-visible and static");
        for (Class<?> inside : AskTrust.class.getDeclaredClasses()) {
            int modifiers = inside.getModifiers();
            DUE.yes(inside + " is static", Modifier.isStatic(modifiers));
            DUE.no(inside + " is open", Modifier.isPublic(modifiers) || Modifier.isProtected(modifiers));
        }
    }
}
