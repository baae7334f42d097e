import java.lang.reflect.Constructor;
import java.lang.reflect.Field;
import java.lang.reflect.Method;
import java.lang.reflect.Modifier;
import java.util.ArrayList;
import java.util.Collections;
import java.util.List;

/** The class shows the document's face and nothing else. */
public final class FaceTest {
    private static final String[] FACE = {
        "int addMill(int, int) IndexOutOfBoundsException IllegalArgumentException IllegalStateException",
        "int advise(int) IllegalArgumentException",
        "int arch(int, int) IndexOutOfBoundsException",
        "int build(int, int) IllegalArgumentException IllegalStateException",
        "int count(int) IndexOutOfBoundsException",
        "int foresee(int, int) IllegalArgumentException IndexOutOfBoundsException",
        "int mend(int) IndexOutOfBoundsException IllegalStateException",
        "int mill(int, int) IndexOutOfBoundsException",
        "int pass(int) IllegalArgumentException",
        "int quake(int, int) IndexOutOfBoundsException IllegalArgumentException",
        "int setCistern(int) IllegalArgumentException",
        "int setCity(int, int) IndexOutOfBoundsException IllegalArgumentException",
        "int setSluice(int, int) IndexOutOfBoundsException IllegalArgumentException IllegalStateException",
        "int setSpring(int, int) IndexOutOfBoundsException IllegalArgumentException",
        "int thirsty()",
        "int worst()",
        "double reaches()",
        "long digest()",
    };

    public static void main(String[] args) {
        List<String> due = new ArrayList<>(List.of(FACE));
        List<String> shown = new ArrayList<>();
        List<String> hiddenUnderPublicNames = new ArrayList<>();
        for (Method method : ArchWater.class.getDeclaredMethods()) {
            if (!Modifier.isPrivate(method.getModifiers())) {
                shown.add(signature(method));
            } else if (isOfFace(method.getName())) {
                hiddenUnderPublicNames.add(method.getName());
            }
        }
        Collections.sort(due);
        Collections.sort(shown);
        Check.dueText("the methods shown", String.join("\n", shown), String.join("\n", due));
        Check.dueText("private methods with public names", hiddenUnderPublicNames.toString(), "[]");
        Check.due("public and final", ArchWater.class.getModifiers(), Modifier.PUBLIC | Modifier.FINAL);
        constructors();
        fields();
        Check.end();
    }

    private static void constructors() {
        Constructor<?>[] all = ArchWater.class.getDeclaredConstructors();
        Check.due("constructors", all.length, 1);
        Check.due("its modifiers", all[0].getModifiers(), Modifier.PUBLIC);
        Check.due("its parameters", all[0].getParameterCount(), 0);
    }

    private static void fields() {
        for (Field field : ArchWater.class.getDeclaredFields()) {
            int modifiers = field.getModifiers();
            Check.due(field + " is private", Modifier.isPrivate(modifiers) ? 1 : 0, 1);
            Check.due(field + " is final", Modifier.isFinal(modifiers) ? 1 : 0, 1);
        }
    }

    private static boolean isOfFace(String name) {
        for (String line : FACE) {
            if (line.contains(" " + name + "(")) {
                return true;
            }
        }
        return false;
    }

    private static String signature(Method method) {
        List<String> types = new ArrayList<>();
        for (Class<?> type : method.getParameterTypes()) {
            types.add(type.getSimpleName());
        }
        StringBuilder text = new StringBuilder();
        text.append(method.getReturnType().getSimpleName()).append(' ').append(method.getName());
        text.append('(').append(String.join(", ", types)).append(')');
        for (Class<?> type : method.getExceptionTypes()) {
            text.append(' ').append(type.getSimpleName());
        }
        return text.toString();
    }
}
