import java.lang.reflect.Constructor;
import java.lang.reflect.Field;
import java.lang.reflect.Method;
import java.lang.reflect.Modifier;
import java.util.ArrayList;
import java.util.Collections;
import java.util.List;

/** The public face: its members are those of the document, and no others. */
final class FaceTests {
    private static final String[] METHODS = {
        "int fly(int,int,int) IndexOutOfBoundsException IllegalArgumentException IllegalStateException",
        "int lift(int,int,int,int) IndexOutOfBoundsException IllegalArgumentException IllegalStateException",
        "int set(int) IllegalArgumentException",
        "int put(int,int,int) IndexOutOfBoundsException IllegalStateException",
        "int append(int) IllegalArgumentException IllegalStateException",
        "int clearBuffer()",
        "int firstError()",
        "int play() IllegalArgumentException",
        "int keep()",
        "int goBack() IllegalStateException",
        "int undo() IllegalStateException",
        "int wink(int,int) IndexOutOfBoundsException IllegalArgumentException",
        "int pile(int,int,int) IndexOutOfBoundsException IllegalArgumentException",
        "int colour(int,int) IndexOutOfBoundsException IllegalArgumentException",
        "int count(int) IllegalArgumentException",
        "int why(int,int,int,int) IndexOutOfBoundsException IllegalArgumentException",
        "int lands(int,int,int) IndexOutOfBoundsException IllegalArgumentException",
        "int ifFlown(int,int,int,int) IndexOutOfBoundsException IllegalArgumentException",
        "int best()",
        "int flightsTo(int) IndexOutOfBoundsException",
        "double pottedShare()",
        "float meanPile()",
        "long digest()",
    };

    private final Checks checks;

    FaceTests(Checks checks) {
        this.checks = checks;
    }

    void all() {
        checks.test("face: the class", this::theClass);
        checks.test("face: the methods", this::methods);
        checks.test("face: the constant and the fields", this::fields);
        checks.test("face: the constructor", this::constructor);
    }

    private void theClass() {
        int modifiers = SquopPiles.class.getModifiers();
        checks.isTrue("public and final", Modifier.isPublic(modifiers) && Modifier.isFinal(modifiers));
        for (Class<?> inside : SquopPiles.class.getDeclaredClasses()) {
            checks.isTrue(inside.getName() + " is not seen from outside",
                    !Modifier.isPublic(inside.getModifiers()) && Modifier.isStatic(inside.getModifiers()));
        }
    }

    private void methods() {
        List<String> want = new ArrayList<>(List.of(METHODS));
        List<String> got = new ArrayList<>();
        List<String> hidden = new ArrayList<>();
        for (Method method : SquopPiles.class.getDeclaredMethods()) {
            if (Modifier.isPrivate(method.getModifiers())) {
                hidden.add(method.getName());
            } else {
                got.add(told(method));
            }
        }
        Collections.sort(want);
        Collections.sort(got);
        checks.isTrue(want + " are " + got, want.equals(got));
        for (String name : hidden) {
            for (String face : want) {
                checks.isTrue(name + " is private only", !face.contains(" " + name + "("));
            }
        }
    }

    private static String told(Method method) {
        StringBuilder text = new StringBuilder();
        text.append(method.getReturnType().getSimpleName()).append(' ').append(method.getName()).append('(');
        String comma = "";
        for (Class<?> type : method.getParameterTypes()) {
            text.append(comma).append(type.getSimpleName());
            comma = ",";
        }
        text.append(')');
        for (Class<?> type : method.getExceptionTypes()) {
            text.append(' ').append(type.getSimpleName());
        }
        return text.toString();
    }

    private void fields() {
        checks.due("NONE", -1, SquopPiles.NONE);
        for (Field field : SquopPiles.class.getDeclaredFields()) {
            boolean isNone = field.getName().equals("NONE");
            checks.isTrue(field.getName(), isNone != Modifier.isPrivate(field.getModifiers()));
        }
    }

    private void constructor() {
        Constructor<?>[] all = SquopPiles.class.getDeclaredConstructors();
        checks.due("constructors", 1, all.length);
        checks.due("its parameters", 0, all[0].getParameterCount());
        checks.isTrue("it is public", Modifier.isPublic(all[0].getModifiers()));
    }
}
