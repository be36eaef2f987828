import java.lang.reflect.Constructor;
import java.lang.reflect.Field;
import java.lang.reflect.Method;
import java.lang.reflect.Modifier;
import java.util.ArrayList;
import java.util.Arrays;
import java.util.Collections;
import java.util.HashSet;
import java.util.List;
import java.util.Set;

/** The public face as the document declares it, and rule 1 of LANGUAGE.md: nothing else is to be seen. */
public final class FaceTest {
    private static final String[] FACE = {
        "int link(int, int, boolean) IndexOutOfBoundsException IllegalArgumentException",
        "int power(int, boolean) IndexOutOfBoundsException",
        "int jump(int, int) IndexOutOfBoundsException IllegalArgumentException",
        "int setFaults(int, int) IndexOutOfBoundsException IllegalArgumentException",
        "int setPatience(int) IllegalArgumentException",
        "int take(int, int) IndexOutOfBoundsException IllegalArgumentException IllegalStateException",
        "int run(int) IllegalArgumentException",
        "int appendText(int) IllegalArgumentException IllegalStateException",
        "int clearText()",
        "int errorPosition()",
        "int runText() IllegalStateException",
        "int undo() IllegalStateException",
        "boolean isConnected(int, int) IndexOutOfBoundsException",
        "int parent(int) IndexOutOfBoundsException",
        "int depth(int) IndexOutOfBoundsException",
        "int clock(int) IndexOutOfBoundsException",
        "int silence(int) IndexOutOfBoundsException",
        "int faults(int) IndexOutOfBoundsException",
        "int hops(int) IndexOutOfBoundsException",
        "int stored(int) IndexOutOfBoundsException",
        "int storedReading(int, int, int) IndexOutOfBoundsException IllegalArgumentException",
        "int collected()",
        "int collectedReading(int, int) IndexOutOfBoundsException IllegalArgumentException",
        "int copies(int, int) IndexOutOfBoundsException",
        "int missing()",
        "int wrongStamps()",
        "int slotsToCollect()",
        "int ifRun(int) IllegalArgumentException",
        "int time()",
        "int count(int) IllegalArgumentException",
        "double joined()",
        "int savedStates()",
        "int textLength()",
    };

    public static void main(String[] args) {
        Check.sentence("The public face, and LANGUAGE.md 1");
        Class<?> face = MeterNetwork.class;
        Check.same("public and final", Modifier.isPublic(face.getModifiers()) && Modifier.isFinal(face.getModifiers()),
                true);
        methods(face);
        fields(face);
        Constructor<?>[] constructors = face.getDeclaredConstructors();
        Check.same("constructors", constructors.length, 1);
        Check.same("its modifiers", constructors[0].getModifiers(), Modifier.PUBLIC);
        Check.same("its parameters", constructors[0].getParameterCount(), 0);
        for (Class<?> inside : face.getDeclaredClasses()) {
            boolean isHidden = !Modifier.isPublic(inside.getModifiers()) && !Modifier.isProtected(inside.getModifiers());
            Check.same("hidden and static: " + inside, isHidden && Modifier.isStatic(inside.getModifiers()), true);
            noPublicNames(inside);
        }
        Check.finish();
    }

    private static void methods(Class<?> face) {
        List<String> seen = new ArrayList<>();
        for (Method method : face.getDeclaredMethods()) {
            if (!Modifier.isPrivate(method.getModifiers())) {
                Check.same("modifiers of " + method, method.getModifiers(), Modifier.PUBLIC);
                seen.add(told(method));
            }
        }
        List<String> due = new ArrayList<>(Arrays.asList(FACE));
        Collections.sort(seen);
        Collections.sort(due);
        Check.same("the methods", String.join("\n", seen), String.join("\n", due));
        noPublicNames(face);
    }

    private static String told(Method method) {
        List<String> parameters = new ArrayList<>();
        for (Class<?> parameter : method.getParameterTypes()) {
            parameters.add(parameter.getSimpleName());
        }
        StringBuilder s = new StringBuilder(method.getReturnType().getSimpleName()).append(' ');
        s.append(method.getName()).append('(').append(String.join(", ", parameters)).append(')');
        for (Class<?> thrown : method.getExceptionTypes()) {
            s.append(' ').append(thrown.getSimpleName());
        }
        return s.toString();
    }

    private static void noPublicNames(Class<?> type) {
        Set<String> names = new HashSet<>();
        for (String line : FACE) {
            names.add(line.substring(line.indexOf(' ') + 1, line.indexOf('(')));
        }
        for (Method method : type.getDeclaredMethods()) {
            if (Modifier.isPrivate(method.getModifiers())) {
                Check.same("a private method with a public name: " + method, names.contains(method.getName()), false);
            }
        }
    }

    private static void fields(Class<?> face) {
        for (Field field : face.getDeclaredFields()) {
            boolean isNone = field.getName().equals("NONE");
            int due = isNone ? Modifier.PUBLIC | Modifier.STATIC | Modifier.FINAL : Modifier.PRIVATE;
            Check.same("modifiers of " + field, field.getModifiers() & (due | Modifier.PUBLIC | Modifier.PROTECTED), due);
            Check.same("static is final: " + field,
                    !Modifier.isStatic(field.getModifiers()) || Modifier.isFinal(field.getModifiers()), true);
        }
    }
}
