import java.lang.reflect.InvocationTargetException;
import java.lang.reflect.Method;
import java.lang.reflect.Modifier;
import java.util.ArrayList;
import java.util.Comparator;
import java.util.List;
import java.util.Random;

/**
 * Every call of the face with whatever numbers, in whatever state: none throws, and each answers as PlainGarrison does.
 * RandomTest takes mostly numbers of the told ranges; here most are at their bounds, beside them, or far away.
 */
public final class AnyNumbersTest {
    private static final Due due = new Due();
    private static final int MOST_CALLS = 512;
    private static final int LOOK = 36;
    private static final int[] NEAR = {-36, -12, -9, -3, -2, -1, 0, 1, 2, 3, 4, 5, 6, 7, 8, 9, 10, 11, 12, 13, 20, 21, 24, 25,
        35, 36, 48, 49, 50, 59, 60, 61, 99, 100, 120, 121, 255, 256};
    private static final int[] TOLD = {9, 10, 16, 17, 30, 36, 37, 40, 110, 511, 536, 537, 599, 610, 10100, 10112, 10113, 12400,
        12500, 10099, 302412, 302512, 310100};
    private static final int[] FAR = {Integer.MIN_VALUE, Integer.MIN_VALUE + 1, Integer.MIN_VALUE + 3, -2000000000, -65536,
        65535, 65536, 1 << 30, 1431655766, 2000000000, Integer.MAX_VALUE - 3, Integer.MAX_VALUE - 1, Integer.MAX_VALUE};
    private static final List<Method> CALLS = calls();
    private final Random random;
    private final NightGarrison x = new NightGarrison();
    private final PlainGarrison p = new PlainGarrison();

    private AnyNumbersTest(int seed) {
        random = new Random(seed);
        due.part("run " + seed);
    }

    public static void main(String[] args) throws Exception {
        int runs = args.length > 0 ? Integer.parseInt(args[0]) : 120;
        int first = args.length > 1 ? Integer.parseInt(args[1]) : 0;
        due.is("calls of the face", CALLS.size(), 39);
        for (int seed = first; seed < first + runs; seed++) {
            new AnyNumbersTest(seed).run();
        }
        due.end();
    }

    private static List<Method> calls() {
        List<Method> all = new ArrayList<>();
        for (Method m : NightGarrison.class.getDeclaredMethods()) {
            if (Modifier.isPublic(m.getModifiers())) {
                all.add(m);
            }
        }
        all.sort(Comparator.comparing(Method::getName));
        return all;
    }

    private void run() throws Exception {
        for (int i = 0; i < MOST_CALLS - LOOK; i++) {
            call(CALLS.get(random.nextInt(CALLS.size())));
        }
        for (int room = 0; room < LOOK; room++) {
            due.is("of(" + room + ", 0) at the end", x.of(room, 0), p.of(room, 0));
        }
    }

    /** Small ones come most often, so that calls are taken too and states change. */
    private int number() {
        int kind = random.nextInt(20);
        if (kind < 9) {
            return random.nextInt(7);
        }
        if (kind < 16) {
            return NEAR[random.nextInt(NEAR.length)];
        }
        if (kind < 18) {
            return TOLD[random.nextInt(TOLD.length)];
        }
        return kind < 19 ? FAR[random.nextInt(FAR.length)] : random.nextInt();
    }

    private void call(Method of) throws Exception {
        Class<?>[] types = of.getParameterTypes();
        Object[] with = new Object[types.length];
        StringBuilder told = new StringBuilder(of.getName());
        for (int i = 0; i < with.length; i++) {
            with[i] = types[i] == long.class ? (Object) longNumber() : (Object) number();
            told.append(i == 0 ? "(" : ", ").append(with[i]);
        }
        long want = ((Number) PlainGarrison.class.getDeclaredMethod(of.getName(), types).invoke(p, with)).longValue();
        try {
            due.is(told + ")", ((Number) of.invoke(x, with)).longValue(), want);
        } catch (InvocationTargetException e) {
            due.isTrue(told + ") throws nothing, but threw " + e.getCause(), false);
        }
    }

    private long longNumber() {
        int kind = random.nextInt(6);
        if (kind < 2) {
            return p.map(random.nextInt(6));
        }
        return kind < 4 ? number() : kind < 5 ? random.nextLong() : Long.MIN_VALUE;
    }
}
