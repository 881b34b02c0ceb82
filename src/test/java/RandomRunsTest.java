import java.lang.reflect.Method;
import java.util.ArrayList;
import java.util.Arrays;
import java.util.Comparator;
import java.util.HashMap;
import java.util.List;
import java.util.Map;
import java.util.Random;

/** Random runs of calls (the same ones each time): WarmNight has to answer as the Model does. */
public final class RandomRunsTest {
    private static final int[] EDGES = {Integer.MIN_VALUE, Integer.MAX_VALUE, -1, -2, 0, 1, 7, 8, 9, 10, 23, 24, 25,
        -301, 301, -401, 201, 51, 41, 101, 21, 61, 11, 5, 6};
    /** Ranges of the arguments that are as told, by the call's name. */
    private static final Map<String, int[][]> RANGES = new HashMap<>();

    private static void range(String name, int... leastAndMost) {
        int[][] ranges = new int[leastAndMost.length / 2][];
        for (int i = 0; i < ranges.length; i++) {
            ranges[i] = new int[] {leastAndMost[2 * i], leastAndMost[2 * i + 1]};
        }
        RANGES.put(name, ranges);
    }

    static {
        range("put", 0, 10, 0, 9);
        range("cell", 0, 7, -100, 200, 0, 50, 0, 3);
        range("pass", 0, 6, 0, 40);
        range("hang", 0, 6, 0, 1);
        range("cold", 0, 23, 1, 24, -150, 20);
        range("help", 0, 9, 0, 9);
        range("man", 0, 7, 0, 20, -70, 40, 0, 4, 0, 40);
        range("coat", 0, 7, 0, 1);
        range("broken", 0, 9, 0, 7, 0, 50);
        range("open", 0, 9, 0, 1);
        range("plan", 0, 9, 0, 2);
        range("clear");
        range("carriage");
        range("warmth", 0, 5, 0, 9, 0, 7, 0, 5);
        range("feels", 0, 5, 0, 9, 0, 7, 0, 6);
        range("fuel", 0, 5, 0, 9, 0, 7, 0, 1);
        range("worst", 0, 5, 0, 9);
        range("falls", 0, 5, 0, 9, 0, 1);
        range("fair", 0, 5, 0, 9);
        range("best", -1, 7);
        range("take");
        range("sit", 0, 5, 0, 9, -1, 7);
        range("coats", 0, 5, 0, 9, 0, 8);
        range("fewest", 0, 5, 0, 9);
        range("saved", 0, 5, 0, 9);
        range("keep", 0, 4);
        range("worth", 0, 5, 0, 9, 0, 7);
        range("when", 0, 5, 0, 9);
        range("part", 0, 1);
        range("image", 0, 1);
        range("from", 0, 1);
        range("count", 0, 3);
        range("digest");
    }

    private final Random random;
    private final WarmNight night = new WarmNight();
    private final Model model = new Model();
    private final List<String> calls = new ArrayList<>();
    private boolean wrong;

    private RandomRunsTest(long seed) {
        random = new Random(seed);
    }

    private int between(int least, int most) {
        return least + random.nextInt(most - least + 1);
    }

    private void call(Method method, Object... args) {
        if (wrong) return;
        try {
            Method other = Model.class.getDeclaredMethod(method.getName(), method.getParameterTypes());
            Object due = other.invoke(model, args);
            Object got = method.invoke(night, args);
            calls.add(method.getName() + Arrays.toString(args) + " = " + got);
            if (!due.equals(got)) {
                wrong = true;
                calls.add("  but due is " + due);
            }
        } catch (ReflectiveOperationException e) {
            wrong = true;
            calls.add(method.getName() + Arrays.toString(args) + " threw " + e.getCause());
        }
    }

    private Object[] arguments(Method method, int[][] ranges) {
        Class<?>[] types = method.getParameterTypes();
        Object[] args = new Object[types.length];
        for (int i = 0; i < types.length; i++) {
            if (types[i] == boolean.class) {
                args[i] = random.nextInt(4) != 0;
            } else if (random.nextInt(40) == 0) {
                args[i] = EDGES[random.nextInt(EDGES.length)];
            } else {
                args[i] = between(ranges[i][0], ranges[i][1]);
            }
        }
        if (method.getName().equals("put") && (int) args[0] >= 0 && (int) args[0] <= 10 && random.nextInt(20) != 0) {
            int what = (int) args[0];
            int most = what == 3 && random.nextInt(6) != 0 ? 5 : Model.RANGES[what][1];
            args[1] = between(Model.RANGES[what][0], most);
        }
        return args;
    }

    private void callByName(Map<String, Method> face, String name) {
        if (name.equals("type")) {
            typeSome(face);
        } else {
            Method method = face.get(name);
            call(method, arguments(method, RANGES.get(name)));
        }
    }

    private void typeSome(Map<String, Method> face) {
        if (random.nextInt(20) == 0) {
            call(face.get("type"), random.nextLong(), between(-1, 9));
            return;
        }
        if (random.nextInt(3) != 0) call(face.get("clear"));
        String text = randomText();
        for (int at = 0; at < text.length(); ) {
            int n = Math.min(between(1, 8), text.length() - at);
            long v = random.nextBoolean() ? -1 : 0;
            for (int i = 0; i < n; i++) v = v << 8 | text.charAt(at + i);
            call(face.get("type"), v, n);
            at += n;
        }
        calls.add("  (the text is now \"" + model.text + "\")");
        call(face.get("carriage"));
    }

    private String blanks(int least) {
        return " ".repeat(random.nextInt(6) == 0 ? between(least, 3) : least);
    }

    private String randomText() {
        String[] forms = {"put", "cell", "pass", "hang", "cold", "help", "man", "coat", "broken", "open"};
        StringBuilder text = new StringBuilder(blanks(0));
        int items = random.nextInt(8);
        for (int i = 0; i < items; i++) {
            String form = forms[random.nextInt(forms.length)];
            int[][] ranges = RANGES.get(form);
            boolean flagged = form.equals("hang") || form.equals("coat") || form.equals("open");
            text.append(form.equals("broken") ? "break" : form);
            for (int k = 0; k < ranges.length - (flagged ? 1 : 0); k++) {
                int most = form.equals("coat") ? 2 : ranges[k][1];
                text.append(blanks(k == 0 && random.nextBoolean() ? 0 : 1)).append(between(ranges[k][0], most));
            }
            text.append(blanks(0)).append(';').append(blanks(0));
        }
        int changes = random.nextInt(3) == 0 ? between(1, 2) : 0;
        String signs = " ;-0123459azputman" + (char) 0 + (char) 255;
        for (int i = 0; i < changes && text.length() > 0; i++) {
            int at = random.nextInt(text.length());
            char sign = signs.charAt(random.nextInt(signs.length()));
            switch (random.nextInt(3)) {
                case 0 -> text.deleteCharAt(at);
                case 1 -> text.insert(at, sign);
                default -> text.setCharAt(at, sign);
            }
        }
        return text.toString();
    }

    private void run(Map<String, Method> face, int length) {
        String[] names = face.keySet().toArray(new String[0]);
        Arrays.sort(names, Comparator.naturalOrder());
        String[] telling = {"put", "put", "put", "cell", "cell", "pass", "hang", "cold", "help", "man", "man", "man",
            "coat", "broken", "open", "plan"};
        // Short nights first: the Model tries every plan of a night by brute force.
        call(face.get("put"), 3, between(1, 5));
        for (int i = 0; i < length && !wrong; i++) {
            String name = i < length / 4 || random.nextInt(5) == 0
                ? telling[random.nextInt(telling.length)] : names[random.nextInt(names.length)];
            boolean around = random.nextInt(4) == 0 && model.t.numbers[3] <= 4;
            if (around) call(face.get("best"), -1);
            callByName(face, name);
            // What was found ahead of a call must not be told behind it if the call changed something.
            if (around && model.t.numbers[3] <= 4) call(face.get("best"), -1);
            if (i % 8 == 0) call(face.get("digest"));
        }
    }

    public static void main(String[] args) {
        int runs = args.length > 0 ? Integer.parseInt(args[0]) : 400;
        long seed = args.length > 1 ? Long.parseLong(args[1]) : 1;
        Map<String, Method> face = new HashMap<>();
        for (Method method : WarmNight.class.getDeclaredMethods()) {
            if (RANGES.containsKey(method.getName()) || method.getName().equals("type")) {
                face.put(method.getName(), method);
            }
        }
        int calls = 0;
        for (int i = 0; i < runs; i++) {
            RandomRunsTest test = new RandomRunsTest(seed * 1000003 + i);
            test.run(face, 120);
            calls += test.calls.size();
            if (test.wrong) {
                test.calls.forEach(System.out::println);
                System.out.println("random run " + i + " is not as due");
                System.exit(1);
            }
        }
        System.out.println(runs + " random runs, " + calls + " calls, all as due");
    }
}
