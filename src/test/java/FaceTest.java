import java.lang.reflect.Constructor;
import java.lang.reflect.Field;
import java.lang.reflect.Method;
import java.lang.reflect.Modifier;
import java.util.Arrays;
import java.util.TreeSet;

/** The public face is the document's, and nothing else of the class can be seen from outside. */
final class FaceTest {
    private static final Checks checks = new Checks();

    private static final String BOUNDS = " IndexOutOfBoundsException";
    private static final String ARGUMENT = " IllegalArgumentException";
    private static final String STATE = " IllegalStateException";

    private static final String[] METHODS = {
        "int holiday(int, int)" + BOUNDS + ARGUMENT + STATE,
        "boolean isOpen(int)" + ARGUMENT,
        "int roll(int)" + ARGUMENT,
        "int fix(int, int)" + ARGUMENT + STATE,
        "int rateFor(int)" + ARGUMENT,
        "int trade(int, int, boolean, int, int, int, int)" + BOUNDS + ARGUMENT + STATE,
        "void setTerms(int, int, int, int)" + BOUNDS + ARGUMENT + STATE,
        "int breakPart(int, int, int)" + BOUNDS + ARGUMENT + STATE,
        "int handOver(int, int, int)" + BOUNDS + ARGUMENT + STATE,
        "int press(int)" + ARGUMENT,
        "int trades()",
        "int start(int, int)" + BOUNDS,
        "int end(int, int)" + BOUNDS,
        "int lots(int, int)" + BOUNDS,
        "long floating(int, int)" + BOUNDS,
        "long flow(int, int)" + BOUNDS,
        "int partyOn(int, int)" + BOUNDS + ARGUMENT,
        "long cash(int, int)" + BOUNDS + ARGUMENT,
        "long cashOfDays(int, int, int)" + BOUNDS + ARGUMENT,
        "long cashByTrades(int, int, int)" + BOUNDS + ARGUMENT,
        "int nextFlow(int, int)" + BOUNDS + ARGUMENT,
    };

    public static void main(String[] args) {
        classIsPublicAndFinal();
        constantsAreAsWritten();
        methodsAreAsWritten();
        insidesAreHidden();
        checks.close();
    }

    private static void classIsPublicAndFinal() {
        int modifiers = Resetline.class.getModifiers();
        checks.holds("the class is public", Modifier.isPublic(modifiers));
        checks.holds("the class is final", Modifier.isFinal(modifiers));
        Constructor<?>[] constructors = Resetline.class.getDeclaredConstructors();
        checks.same("constructors", constructors.length, 1);
        checks.same("arguments of the constructor", constructors[0].getParameterCount(), 0);
        checks.holds("the constructor is public", Modifier.isPublic(constructors[0].getModifiers()));
    }

    private static void constantsAreAsWritten() {
        checks.same("NONE", Resetline.NONE, -1);
        checks.same("SIMPLE", Resetline.SIMPLE, 0);
        checks.same("SPREAD_IN", Resetline.SPREAD_IN, 1);
        checks.same("SPREAD_BESIDE", Resetline.SPREAD_BESIDE, 2);
        TreeSet<String> visible = new TreeSet<>();
        for (Field field : Resetline.class.getDeclaredFields()) {
            if (!Modifier.isPrivate(field.getModifiers())) {
                visible.add(Modifier.toString(field.getModifiers()) + " " + field.getType() + " " + field.getName());
            }
        }
        TreeSet<String> due = new TreeSet<>();
        for (String name : new String[] {"NONE", "SIMPLE", "SPREAD_IN", "SPREAD_BESIDE"}) {
            due.add("public static final int " + name);
        }
        checks.holds("visible fields " + visible, visible.equals(due));
    }

    private static void methodsAreAsWritten() {
        TreeSet<String> visible = new TreeSet<>();
        for (Method method : Resetline.class.getDeclaredMethods()) {
            if (!Modifier.isPrivate(method.getModifiers())) {
                checks.same(method.getName() + " is public and no more", method.getModifiers(), Modifier.PUBLIC);
                visible.add(textOf(method));
            }
        }
        for (String text : METHODS) {
            checks.holds(text + " is there", visible.contains(text));
        }
        checks.same("visible methods", visible.size(), METHODS.length);
    }

    private static void insidesAreHidden() {
        TreeSet<String> publicNames = new TreeSet<>();
        for (Method method : Resetline.class.getDeclaredMethods()) {
            if (Modifier.isPublic(method.getModifiers())) {
                publicNames.add(method.getName());
            }
        }
        for (Method method : Resetline.class.getDeclaredMethods()) {
            if (Modifier.isPrivate(method.getModifiers())) {
                checks.holds("private " + method.getName() + " has a name of its own",
                        !publicNames.contains(method.getName()));
            }
        }
        for (Class<?> inside : Resetline.class.getDeclaredClasses()) {
            checks.holds(inside + " is not public", !Modifier.isPublic(inside.getModifiers()));
            checks.holds(inside + " is static", Modifier.isStatic(inside.getModifiers()));
        }
    }

    private static String textOf(Method method) {
        StringBuilder text = new StringBuilder();
        text.append(method.getReturnType().getSimpleName()).append(' ').append(method.getName()).append('(');
        String[] types = new String[method.getParameterCount()];
        for (int i = 0; i < types.length; i++) {
            types[i] = method.getParameterTypes()[i].getSimpleName();
        }
        text.append(String.join(", ", Arrays.asList(types))).append(')');
        for (Class<?> thrown : method.getExceptionTypes()) {
            text.append(' ').append(thrown.getSimpleName());
        }
        return text.toString();
    }
}
