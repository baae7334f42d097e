import java.io.IOException;
import java.lang.reflect.Constructor;
import java.lang.reflect.Executable;
import java.lang.reflect.Field;
import java.lang.reflect.Modifier;
import java.nio.file.Files;
import java.nio.file.Path;
import java.util.ArrayList;
import java.util.Arrays;
import java.util.List;
import java.util.Set;
import java.util.TreeSet;
import java.util.regex.Matcher;
import java.util.regex.Pattern;

/**
 * The rules of LANGUAGE.md that can be seen from outside or from the text, by their numbers.
 * What is due is what the class uses, which is less than the rules allow.
 */
public final class LanguageTest {
    private static final Set<String> LIBRARY =
            new TreeSet<>(List.of("Math.floorMod", "Math.max", "Math.min", "System.arraycopy"));
    private static final Set<String> THROWN =
            new TreeSet<>(List.of("IllegalArgumentException", "IllegalStateException", "IndexOutOfBoundsException"));
    private static final String NOT_USED = "\\b(import|package|try|catch|finally|synchronized|assert|instanceof"
            + "|enum|record|interface|extends|implements|var|float|String|Integer|Long|Object|toString|equals|hashCode"
            + "|getClass|volatile|transient|native|strictfp|goto|Thread)\\b|->|::|@";

    public static void main(String[] args) throws IOException {
        text(Files.readString(Path.of("src/main/java/ArchWater.java")));
        List<Class<?>> classes = new ArrayList<>(Arrays.asList(ArchWater.class.getDeclaredClasses()));
        for (Class<?> inside : classes) {
            insideClass(inside);
        }
        classes.add(ArchWater.class);
        Check.due("rule 11: at most twelve classes", classes.size() <= 12 ? 1 : 0, 1);
        for (Class<?> each : classes) {
            fields(each);
            parameters(each);
        }
        Check.end();
    }

    private static void text(String whole) {
        Check.dueText("rule 4: signs that are not 1 to 127", found(whole, "[^\\x01-\\x7f]").toString(), "[]");
        String code = whole.replaceAll("(?s)/\\*.*?\\*/", " ").replaceAll("//[^\n]*", " ");
        Check.dueText("rule 6: thrown", found(code, "throw new (\\w+)\\(\"[^\"]*\"\\);").toString(), THROWN.toString());
        Check.due("rule 6: every throw is of that form", count(code, "\\bthrow\\b"), count(code, "\\bthrow new \\w+\\("));
        String bare = code.replaceAll("\"[^\"]*\"", "");
        Check.dueText("rule 4: the library", found(bare, "\\b([A-Z][a-z]\\w*\\.\\w+)").toString(), LIBRARY.toString());
        Check.dueText("rules 1 to 13: what is not used", found(bare, NOT_USED).toString(), "[]");
    }

    private static void insideClass(Class<?> inside) {
        int modifiers = inside.getModifiers();
        boolean hidden = !Modifier.isPublic(modifiers) && !Modifier.isProtected(modifiers);
        Check.due("rule 1: static and not shown: " + inside, hidden && Modifier.isStatic(modifiers) ? 1 : 0, 1);
        for (Constructor<?> constructor : inside.getDeclaredConstructors()) {
            Check.due("rule 12: what is handed out to " + constructor, constructor.getParameterCount(), 0);
        }
    }

    private static void fields(Class<?> each) {
        int own = 0;
        for (Field field : each.getDeclaredFields()) {
            Class<?> part = field.getType().isArray() ? field.getType().getComponentType() : field.getType();
            boolean known = part == int.class || part.getEnclosingClass() == ArchWater.class;
            Check.due("rule 3: the type of " + field, known ? 1 : 0, 1);
            if (Modifier.isStatic(field.getModifiers())) {
                boolean constant = Modifier.isFinal(field.getModifiers()) && field.getType() == int.class;
                Check.due("rule 5: a constant: " + field, constant ? 1 : 0, 1);
            } else {
                own++;
            }
        }
        Check.due("rule 11: at most twenty fields of " + each, own <= 20 ? 1 : 0, 1);
    }

    private static void parameters(Class<?> each) {
        for (Executable method : each.getDeclaredMethods()) {
            Check.due("rule 11: at most seven parameters: " + method, method.getParameterCount() <= 7 ? 1 : 0, 1);
        }
    }

    private static Set<String> found(String text, String pattern) {
        Set<String> found = new TreeSet<>();
        Matcher matcher = Pattern.compile(pattern).matcher(text);
        while (matcher.find()) {
            // A pattern with one group of its own tells that; the alternation of words tells all that it meets.
            found.add(matcher.groupCount() == 1 && matcher.group(1) != null ? matcher.group(1) : matcher.group());
        }
        return found;
    }

    private static int count(String text, String pattern) {
        int count = 0;
        Matcher matcher = Pattern.compile(pattern).matcher(text);
        while (matcher.find()) {
            count++;
        }
        return count;
    }
}
