import java.lang.management.ManagementFactory;
import java.lang.reflect.InvocationTargetException;
import java.lang.reflect.Method;
import java.util.ArrayList;
import java.util.Comparator;
import java.util.List;
import java.util.Random;

/** No call makes an object, an object takes little room, and no call throws whatever its numbers are. */
public final class RoomTest {
    private static final int MOST_BYTES_AN_OBJECT = 40000;
    private static final com.sun.management.ThreadMXBean ROOM =
        (com.sun.management.ThreadMXBean) ManagementFactory.getThreadMXBean();
    private static int wrong = 0;

    private static void check(boolean is, String what) {
        if (!is) {
            wrong++;
            System.out.println("not so: " + what);
        }
    }

    private static void tell(WarmNight x) {
        for (int i = 0; i < 8; i++) x.man(i, i, 10 * i - 60, i % 3, i);
        x.put(0, 8);
        x.open(3, true);
        x.broken(2, 1, 20);
        x.help(1, 3);
        String text = "put 0 6;man 0 1 2 3 4;coat 0;";
        for (int i = 0; i < text.length(); i++) x.type(text.charAt(i), 1);
    }

    /** Every call that reckons something, once. */
    private static long ask(WarmNight x) {
        long sum = 0;
        for (int kind = 0; kind < 6; kind++) {
            sum += x.warmth(kind, 2, 3, 1) + x.feels(kind, 2, 3, 1) + x.fuel(kind, 2, 3, 1) + x.worst(kind, 2)
                + x.falls(kind, 2, 1) + x.fair(kind, 2) + x.sit(kind, 2, 1) + x.coats(kind, 2, 4) + x.fewest(kind, 2)
                + x.saved(kind, 2) + x.keep(kind) + x.worth(kind, 2, 1) + x.when(kind, 2);
        }
        x.image(0);
        sum += x.best(0) + x.take() + x.carriage() + x.from(0) + x.digest() + x.part(0) + x.count(1);
        return sum;
    }

    private static void measure() {
        WarmNight warm = new WarmNight();
        tell(warm);
        ask(warm);
        // The readings come first and the checks behind them, as joining texts makes objects, too.
        long[] made = new long[4];
        made[0] = ROOM.getCurrentThreadAllocatedBytes();
        made[0] = ROOM.getCurrentThreadAllocatedBytes();
        WarmNight x = new WarmNight();
        made[1] = ROOM.getCurrentThreadAllocatedBytes();
        tell(x);
        made[2] = ROOM.getCurrentThreadAllocatedBytes();
        ask(x);
        made[3] = ROOM.getCurrentThreadAllocatedBytes();
        check(made[1] - made[0] < MOST_BYTES_AN_OBJECT, "an object takes little room: " + (made[1] - made[0]));
        check(made[2] == made[1], "telling makes nothing: " + (made[2] - made[1]));
        check(made[3] == made[2], "asking makes nothing: " + (made[3] - made[2]));
        System.out.println("an object takes " + (made[1] - made[0]) + " bytes");
    }

    private static int wildNumber(Random random) {
        switch (random.nextInt(4)) {
            case 0: return random.nextInt();
            case 1: return random.nextBoolean() ? Integer.MAX_VALUE : Integer.MIN_VALUE;
            default: return random.nextInt(30) - 3;
        }
    }

    private static void wildCalls() throws IllegalAccessException {
        Random random = new Random(5);
        List<Method> face = new ArrayList<>();
        for (Method m : WarmNight.class.getDeclaredMethods()) {
            if (java.lang.reflect.Modifier.isPublic(m.getModifiers())) face.add(m);
        }
        face.sort(Comparator.comparing(Method::getName));
        for (int run = 0; run < 400; run++) {
            WarmNight x = new WarmNight();
            for (int i = 0; i < 512; i++) {
                Method m = face.get(random.nextInt(face.size()));
                Object[] args = new Object[m.getParameterCount()];
                for (int k = 0; k < args.length; k++) {
                    Class<?> type = m.getParameterTypes()[k];
                    args[k] = type == long.class ? (Object) random.nextLong()
                        : type == boolean.class ? (Object) random.nextBoolean() : (Object) wildNumber(random);
                }
                try {
                    m.invoke(x, args);
                } catch (InvocationTargetException e) {
                    check(false, m + " does not throw: " + e.getCause());
                }
            }
        }
    }

    public static void main(String[] args) throws IllegalAccessException {
        measure();
        wildCalls();
        System.out.println(wrong == 0 ? "nothing is made and nothing thrown" : wrong + " faults of the room");
        if (wrong != 0) System.exit(1);
    }
}
