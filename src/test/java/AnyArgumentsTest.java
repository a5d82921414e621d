import java.lang.reflect.InvocationTargetException;
import java.lang.reflect.Method;
import java.util.Arrays;
import java.util.Comparator;
import java.util.Random;

/** Calls everything with numbers of all sizes: only element throws, and what is refused changes nothing. */
public final class AnyArgumentsTest {
    private static final int[] ODD = {Integer.MIN_VALUE, Integer.MIN_VALUE + 1, -1000000001, -46, -45, -2, -1,
        0, 1, 2, 3, 7, 8, 9, 10, 31, 32, 45, 46, 60, 61, 90, 99, 100, 101, 999, 1 << 30, Integer.MAX_VALUE - 1,
        Integer.MAX_VALUE};
    private static int wrong;

    public static void main(String[] args) throws Exception {
        Method[] methods = PlumbLine.class.getDeclaredMethods();
        Arrays.sort(methods, Comparator.comparing(Method::getName));
        int calls = 0;
        for (int run = 0; run < 300 && wrong < 20; run++) {
            Random random = new Random(run);
            PlumbLine line = new PlumbLine();
            for (int i = 0; i < 512 && wrong < 20; i++) {
                Method method = methods[random.nextInt(methods.length)];
                if ((method.getModifiers() & 1) != 0) {
                    calls++;
                    call(line, method, numbers(random, method.getParameterCount()));
                }
            }
        }
        System.out.println("AnyArgumentsTest: " + calls + " calls, " + wrong + " wrong");
        if (wrong != 0) {
            System.exit(1);
        }
    }

    private static Object[] numbers(Random random, int n) {
        Object[] numbers = new Object[n];
        for (int i = 0; i < n; i++) {
            int dice = random.nextInt(8);
            numbers[i] = dice == 0 ? ODD[random.nextInt(ODD.length)] : dice == 1 ? random.nextInt(101) : random.nextInt(8);
        }
        return numbers;
    }

    private static void call(PlumbLine line, Method method, Object[] numbers) throws Exception {
        String what = method.getName() + Arrays.toString(numbers);
        String before = all(line);
        boolean refused = false;
        try {
            long answer = ((Number) method.invoke(line, numbers)).longValue();
            refused = answer < 0 && !method.getName().equals("lean") && !method.getName().equals("pushes")
                && !method.getName().equals("leanThen") || answer == 1000000001L;
        } catch (InvocationTargetException thrown) {
            refused = true;
            boolean due = method.getName().equals("element")
                && (thrown.getCause().getClass() == IllegalArgumentException.class
                || thrown.getCause().getClass() == IllegalStateException.class);
            if (!due) {
                wrong++;
                System.out.println(what + " threw " + thrown.getCause());
            }
        }
        if (refused && !before.equals(all(line))) {
            wrong++;
            System.out.println(what + " was refused, and changed " + before + " to " + all(line));
        }
    }

    /** All that can be seen without a change. */
    private static String all(PlumbLine line) {
        StringBuilder seen = new StringBuilder();
        for (int i = 0; i < 8; i++) {
            seen.append(line.count(i)).append(' ').append(line.lean(i)).append(' ');
            for (int what = 0; what < 3; what++) {
                seen.append(line.man(i, what)).append(' ');
            }
            seen.append(line.cost(i)).append(' ').append(line.toss(i)).append(' ');
            for (int j = 0; j < 100; j++) {
                try {
                    seen.append(line.element(i, j)).append(' ');
                } catch (IllegalStateException e) {
                    break;
                }
            }
            seen.append('|');
        }
        return seen.toString();
    }
}
