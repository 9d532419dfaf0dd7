import java.lang.reflect.Constructor;
import java.lang.reflect.Field;
import java.lang.reflect.Method;
import java.lang.reflect.Modifier;
import java.util.Arrays;
import java.util.List;
import java.util.TreeSet;

/** The public face that the document prints, no more and no less, and the constants. */
public final class FaceTest {
    private static final Check check = new Check("FaceTest");

    private static final List<String> METHODS = List.of(
            "int scope(int) IndexOutOfBoundsException IllegalStateException",
            "int offset(int,int) IndexOutOfBoundsException IllegalArgumentException",
            "boolean feast(int,int) IndexOutOfBoundsException IllegalArgumentException",
            "int pass(int) IllegalArgumentException IllegalStateException",
            "int now()",
            "int once(int,int,int,int) IndexOutOfBoundsException IllegalArgumentException IllegalStateException",
            "int daily(int,int,int,int,int) IndexOutOfBoundsException IllegalArgumentException IllegalStateException",
            "int feasts(int,int,int) IndexOutOfBoundsException IllegalArgumentException IllegalStateException",
            "int lift(int) NoSuchElementException",
            "int holding(int,int) IndexOutOfBoundsException IllegalArgumentException",
            "int hours(int) NoSuchElementException",
            "int nextSpan(int,int,int) IndexOutOfBoundsException IllegalArgumentException",
            "int plan(int,int,int,int) IndexOutOfBoundsException IllegalArgumentException IllegalStateException",
            "int move(int,int) IndexOutOfBoundsException IllegalArgumentException IllegalStateException",
            "int approve(int) IndexOutOfBoundsException IllegalStateException",
            "int begin(int) IndexOutOfBoundsException IllegalStateException",
            "int state(int) IndexOutOfBoundsException",
            "int approved(int) IndexOutOfBoundsException",
            "int exceptions(int,int) IllegalArgumentException",
            "int left(int) IllegalArgumentException",
            "int excuse(int,int) IndexOutOfBoundsException NoSuchElementException IllegalStateException",
            "int badHours(int) IndexOutOfBoundsException",
            "int badHoursOneByOne(int) IndexOutOfBoundsException",
            "int firstBad(int) IndexOutOfBoundsException",
            "int reasons(int) IndexOutOfBoundsException");

    public static void main(String[] args) {
        checkConstants();
        checkMethods();
        checkWhatElseIsSeen();
        check.close();
    }

    private static void checkConstants() {
        check.is("NONE", -1, FrostCalendar.NONE);
        check.is("PLANNED", 0, FrostCalendar.PLANNED);
        check.is("BEGUN", 1, FrostCalendar.BEGUN);
        check.is("DONE", 2, FrostCalendar.DONE);
    }

    private static void checkMethods() {
        TreeSet<String> got = new TreeSet<>();
        for (Method method : FrostCalendar.class.getDeclaredMethods()) {
            if (!Modifier.isPrivate(method.getModifiers())) {
                got.add(faceOf(method));
            }
        }
        check.compare("the methods", new TreeSet<>(METHODS).toString(), got.toString());
    }

    private static String faceOf(Method method) {
        StringBuilder face = new StringBuilder();
        face.append(method.getReturnType().getSimpleName()).append(' ').append(method.getName()).append('(');
        Class<?>[] parameters = method.getParameterTypes();
        for (int place = 0; place < parameters.length; place++) {
            face.append(place == 0 ? "" : ",").append(parameters[place].getSimpleName());
        }
        face.append(')');
        for (Class<?> exception : method.getExceptionTypes()) {
            face.append(' ').append(exception.getSimpleName());
        }
        return (Modifier.isPublic(method.getModifiers()) ? "" : "hidden ") + face;
    }

    private static void checkWhatElseIsSeen() {
        Constructor<?>[] constructors = FrostCalendar.class.getDeclaredConstructors();
        check.is("constructors", 1, constructors.length);
        check.is("the constructor's parameters", 0, constructors[0].getParameterCount());
        check.is("a public final class", Modifier.PUBLIC | Modifier.FINAL, FrostCalendar.class.getModifiers());
        TreeSet<String> fields = new TreeSet<>();
        for (Field field : FrostCalendar.class.getDeclaredFields()) {
            if (!Modifier.isPrivate(field.getModifiers())) {
                fields.add(field.getName());
                check.is("modifiers of " + field.getName(),
                        Modifier.PUBLIC | Modifier.STATIC | Modifier.FINAL, field.getModifiers());
            }
        }
        check.compare("the fields", new TreeSet<>(Arrays.asList("NONE", "PLANNED", "BEGUN", "DONE")).toString(),
                fields.toString());
    }
}
