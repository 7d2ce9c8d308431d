import java.lang.reflect.InvocationTargetException;
import java.lang.reflect.Method;
import java.lang.reflect.Modifier;
import java.nio.charset.StandardCharsets;
import java.util.ArrayList;
import java.util.Comparator;
import java.util.List;
import java.util.NoSuchElementException;
import java.util.Random;

/** All promises: runs of random calls, answered by SecondPaper as PaperModel does; only led may throw. */
public final class ModelTest {
    private static final int RUNS = 1200;
    private static final int[] WILD = {-1, -2, 3, 4, 5, 7, 8, 16, 31, 32, 100, 101, 65536, 65537, Integer.MAX_VALUE,
        Integer.MIN_VALUE, Integer.MIN_VALUE + 1, 1 << 30};
    private static int wrong = 0;
    private static long asked = 0;

    public static void main(String[] args) throws Exception {
        int runs = args.length > 0 ? Integer.parseInt(args[0]) : RUNS;
        int from = args.length > 1 ? Integer.parseInt(args[1]) : 0;
        for (int seed = from; seed < from + runs && wrong < 20; seed++) {
            run(seed);
        }
        System.out.println(asked + " answers, " + wrong + " not as due");
        if (wrong != 0) {
            System.exit(1);
        }
    }

    private static List<Method> calls() {
        List<Method> calls = new ArrayList<>();
        for (Method m : SecondPaper.class.getDeclaredMethods()) {
            if (Modifier.isPublic(m.getModifiers()) && !m.getName().equals("feed")) {
                calls.add(m);
            }
        }
        calls.sort(Comparator.comparing(Method::getName));
        return calls;
    }

    private static void run(int seed) throws Exception {
        Random random = new Random(seed);
        RandomTexts texts = new RandomTexts(random);
        List<Method> calls = calls();
        SecondPaper x = new SecondPaper();
        PaperModel y = new PaperModel();
        int left = 512;
        if (random.nextInt(5) != 0) {
            left -= tell(seed, x, y, texts.college());
        }
        while (left > 60) {
            if (random.nextInt(120) == 0) {
                left -= tell(seed, x, y, texts.college());
            } else {
                Method m = calls.get(random.nextInt(calls.size()));
                boolean dear = m.getName().startsWith("soonest") || m.getName().startsWith("rest") || m.getName().equals("caught");
                if (dear && random.nextInt(3) != 0) {
                    continue;
                }
                if (m.getName().equals("college") && random.nextInt(9) != 0) {
                    m = SecondPaper.class.getMethod("give", int.class, int.class, int.class);
                }
                compare(seed, x, y, m, arguments(m, random));
                left--;
            }
        }
    }

    private static Object[] arguments(Method m, Random random) {
        Object[] arguments = new Object[m.getParameterCount()];
        for (int i = 0; i < arguments.length; i++) {
            boolean wild = random.nextInt(12) == 0;
            int number = wild ? WILD[random.nextInt(WILD.length)] : random.nextInt(i == 0 ? 4 : 3);
            String name = m.getName();
            boolean wide = name.equals("dare") || name.equals("honours") || name.equals("drawn") || name.equals("caught") && i > 0
                || name.equals("size");
            if (wide && !wild) {
                number = random.nextInt(name.equals("size") ? 14 : name.equals("drawn") || i == 1 ? 65537 : i == 2 ? 51 : 101);
            }
            arguments[i] = m.getParameterTypes()[i] == boolean.class ? (Object) random.nextBoolean() : (Object) number;
        }
        return arguments;
    }

    private static int tell(int seed, SecondPaper x, PaperModel y, String text) throws Exception {
        byte[] bytes = text.getBytes(StandardCharsets.ISO_8859_1);
        Method feed = SecondPaper.class.getMethod("feed", int.class, int.class, int.class, int.class, int.class);
        Method college = SecondPaper.class.getMethod("college", int.class);
        if (x.size(13) != 0) {
            compare(seed, x, y, college, new Object[] {0});
        }
        for (int at = 0; at < bytes.length; at += 20) {
            Object[] numbers = new Object[5];
            for (int i = 0; i < 5; i++) {
                int number = 0;
                for (int b = 0; b < 4; b++) {
                    int place = at + 4 * i + b;
                    number = number << 8 | (place < bytes.length ? bytes[place] & 255 : ' ');
                }
                numbers[i] = number;
            }
            compare(seed, x, y, feed, numbers);
        }
        compare(seed, x, y, college, new Object[] {bytes.length});
        for (String name : new String[] {"fault", "where"}) {
            if (compare(seed, x, y, SecondPaper.class.getMethod(name), new Object[0])) {
                System.out.println("  text: " + text);
            }
        }
        return bytes.length / 20 + 5;
    }

    private static String answer(Object on, Method m, Object[] arguments) throws IllegalAccessException {
        try {
            return "" + m.invoke(on, arguments);
        } catch (InvocationTargetException e) {
            boolean due = e.getCause() instanceof NoSuchElementException && m.getName().equals("led");
            return (due ? "throws " : "throws what it must not: ") + e.getCause().getClass().getName();
        }
    }

    private static boolean compare(int seed, SecondPaper x, PaperModel y, Method m, Object[] arguments) throws Exception {
        asked++;
        String got = answer(x, m, arguments);
        String due = answer(y, PaperModel.class.getMethod(m.getName(), m.getParameterTypes()), arguments);
        boolean same = got.equals(due) && x.trouble() == y.trouble() && x.where() == y.where() && !got.contains("must not");
        if (!same) {
            wrong++;
            System.out.println("seed " + seed + ": " + m.getName() + java.util.Arrays.toString(arguments) + " answered " + got
                + " with trouble " + x.trouble() + ", where " + x.where() + "; due is " + due + " with trouble " + y.trouble()
                + ", where " + y.where());
        }
        return !same;
    }
}
