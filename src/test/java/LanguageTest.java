import java.lang.reflect.Field;
import java.lang.reflect.Method;
import java.lang.reflect.Modifier;
import java.nio.file.Files;
import java.nio.file.Path;
import java.util.Arrays;
import java.util.TreeSet;
import java.util.regex.Matcher;
import java.util.regex.Pattern;

/** Looks at the program's file for what LANGUAGE.md rules out, as far as words can show it. */
public final class LanguageTest {
    private static final String[] FACE = {"city", "lean", "man", "comes", "pushes", "props", "hangs", "days",
        "leanThen", "then", "straight", "crash", "finds", "trust", "tells", "fewestProps", "push", "right", "whatIs",
        "whereHung", "two", "shocks", "mean", "forged", "judge", "years", "image", "restore", "count", "keep", "row",
        "put", "element", "copy", "cost", "toss"};
    private static final String[] RULED_OUT = {"import ", "package ", "->", "::", "@", "finally", "synchronized",
        "assert", "Exact", "System.out", "record ", "catch (RuntimeException", "catch (Exception",
        "catch (Throwable", "catch (NullPointer", "catch (ArrayIndex", "catch (IndexOutOf", "catch (Arithmetic",
        "catch (ClassCast", "catch (NegativeArray", "catch (ArrayStore", "getMessage", "hashCode", "Integer.M",
        "while (true", "for (;;"};
    private static final Pattern LIBRARY = Pattern.compile("\\b(Integer|Long|Math|System|Arrays)\\.(\\w+)");
    private static final TreeSet<String> ALLOWED = new TreeSet<>(Arrays.asList("Integer.bitCount",
        "Math.max", "Math.min", "Math.abs", "System.arraycopy"));
    private static int wrong;

    public static void main(String[] args) throws Exception {
        String text = Files.readString(Path.of("src/main/java/PlumbLine.java"));
        words(text);
        face();
        classes();
        System.out.println("LanguageTest: " + wrong + " wrong");
        if (wrong != 0) {
            System.exit(1);
        }
    }

    private static void need(boolean so, String what) {
        if (!so) {
            wrong++;
            System.out.println(what);
        }
    }

    private static void words(String text) {
        for (String word : RULED_OUT) {
            need(!text.contains(word), "the file has '" + word + "'");
        }
        for (int i = 0; i < text.length(); i++) {
            need(text.charAt(i) >= 1 && text.charAt(i) <= 127, "a sign above 127 at " + i);
        }
        Matcher library = LIBRARY.matcher(text);
        while (library.find()) {
            need(ALLOWED.contains(library.group()), "the library's " + library.group());
        }
    }

    private static void face() {
        TreeSet<String> open = new TreeSet<>();
        for (Method method : PlumbLine.class.getDeclaredMethods()) {
            if (Modifier.isPublic(method.getModifiers())) {
                need(open.add(method.getName()), "twice " + method.getName());
            } else {
                need(Modifier.isPrivate(method.getModifiers()), "not private: " + method.getName());
            }
        }
        need(open.equals(new TreeSet<>(Arrays.asList(FACE))), "the face is " + open);
        need(Modifier.isFinal(PlumbLine.class.getModifiers()), "the class is not final");
        need(PlumbLine.class.getDeclaredConstructors().length == 1, "one constructor");
        for (Field field : PlumbLine.class.getDeclaredFields()) {
            need(Modifier.isPrivate(field.getModifiers()), "not private: " + field.getName());
        }
    }

    private static void classes() {
        Class<?>[] inside = PlumbLine.class.getDeclaredClasses();
        need(inside.length + 1 <= 12, "more than twelve classes");
        TreeSet<String> face = new TreeSet<>(Arrays.asList(FACE));
        for (Class<?> one : inside) {
            need(Modifier.isStatic(one.getModifiers()), "not static: " + one);
            for (Method method : one.getDeclaredMethods()) {
                need(!face.contains(method.getName()), one + " bears the name of a public method: " + method.getName());
            }
            for (Field field : one.getDeclaredFields()) {
                need(!Modifier.isStatic(field.getModifiers()) || Modifier.isFinal(field.getModifiers()),
                    "static and not final: " + field);
            }
        }
    }
}
