import java.io.IOException;
import java.lang.reflect.Method;
import java.lang.reflect.Modifier;
import java.nio.file.Files;
import java.nio.file.Path;
import java.util.regex.Matcher;
import java.util.regex.Pattern;

/** Makes the calls that README.md shows, in their order, and compares their answers with those told there. */
public final class ReadmeTest {
    private static final Pattern CALL = Pattern.compile("line\\.(\\w+)\\(([^)]*)\\);\\s*// answers (-?\\d+)(:.*)?");
    private static int wrong;
    private static int asked;

    public static void main(String[] args) throws IOException, ReflectiveOperationException {
        String text = Files.readString(Path.of("README.md"));
        PlumbLine line = new PlumbLine();
        for (String row : text.split("\n")) {
            if (row.startsWith("line.")) {
                compares(line, row);
            }
        }
        everyCallStands(text);
        need(asked > 0, "README.md shows no call");
        System.out.println("ReadmeTest: " + asked + " answers, " + wrong + " wrong");
        if (wrong != 0) {
            System.exit(1);
        }
    }

    private static void compares(PlumbLine line, String row) throws ReflectiveOperationException {
        Matcher told = CALL.matcher(row);
        if (!told.matches()) {
            need(false, "a call without an answer: " + row);
            return;
        }
        asked++;
        String answer = String.valueOf(answerOf(line, told.group(1), told.group(2)));
        need(answer.equals(told.group(3)), row + " - it answers " + answer);
    }

    private static Object answerOf(PlumbLine line, String name, String told) throws ReflectiveOperationException {
        String[] words = told.isEmpty() ? new String[0] : told.split(", ");
        Object[] numbers = new Object[words.length];
        Class<?>[] types = new Class<?>[words.length];
        for (int i = 0; i < words.length; i++) {
            numbers[i] = words[i].startsWith("'") ? (int) words[i].charAt(1) : Integer.parseInt(words[i]);
            types[i] = int.class;
        }
        return PlumbLine.class.getMethod(name, types).invoke(line, numbers);
    }

    private static void everyCallStands(String text) {
        for (Method method : PlumbLine.class.getDeclaredMethods()) {
            need(!Modifier.isPublic(method.getModifiers()) || text.contains("`" + method.getName() + "`"),
                "README.md does not name " + method.getName());
        }
    }

    private static void need(boolean so, String what) {
        if (!so) {
            wrong++;
            System.out.println(what);
        }
    }
}
