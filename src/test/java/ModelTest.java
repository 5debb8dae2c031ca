import java.lang.reflect.InvocationTargetException;
import java.lang.reflect.Method;
import java.lang.reflect.Modifier;
import java.util.Arrays;
import java.util.Comparator;
import java.util.Random;

/** Runs of 508 calls by chance, from fixed seeds: the class answers each as the model of the document does. */
public final class ModelTest {
    private static final int RUNS = 600;
    // Four less than an object is used for: about() is asked behind them.
    private static final int CALLS = 508;
    private static final int[] WILD = {-1, Integer.MIN_VALUE, Integer.MAX_VALUE, 1000, -1000};
    private static final String[] OFTEN = {"ticks", "ticks", "ticks", "boat", "light", "talk", "steer", "lean", "dim",
        "set", "handedIn", "ifMargin", "boatOf", "lightOf", "about", "append"};

    private static final Check CHECK = new Check("ModelTest");

    private final Random random;
    private final LanternBoats boats = new LanternBoats();
    private final Model model = new Model();
    private String writing = "";

    private ModelTest(long seed) {
        random = new Random(seed);
    }

    public static void main(String[] args) throws Exception {
        Method[] methods = Arrays.stream(LanternBoats.class.getDeclaredMethods())
                .filter(m -> Modifier.isPublic(m.getModifiers()))
                .sorted(Comparator.comparing(Method::getName)).toArray(Method[]::new);
        long handed = 0;
        long backs = 0;
        long refused = 0;
        long lost = 0;
        for (int run = 0; run < RUNS; run++) {
            ModelTest test = new ModelTest(run);
            test.go(run, methods);
            handed += test.boats.about(5);
            backs += test.boats.about(6);
            refused += test.boats.about(7);
            lost += test.boats.about(8);
        }
        CHECK.holds("the runs see all there is: " + handed + ", " + backs + ", " + refused + ", " + lost,
                handed > RUNS && backs > RUNS / 2 && refused > RUNS && lost > RUNS / 8);
        CHECK.end();
    }

    private void go(int run, Method[] methods) throws Exception {
        for (int i = 0; i < CALLS; i++) {
            Method m = i < 12 ? named(methods, i % 2 == 0 ? "light" : "boat") : pick(methods);
            Object[] args = arguments(m);
            Method same = Model.class.getMethod(m.getName(), m.getParameterTypes());
            String due = answer(same, model, args);
            String got = answer(m, boats, args);
            String call = "run " + run + ", call " + i + ": " + m.getName() + Arrays.toString(args);
            CHECK.holds(call + " answered " + got + ", due is " + due, due.equals(got));
            if (!due.equals(got)) {
                return;
            }
        }
    }

    private static String answer(Method m, Object of, Object[] args) throws Exception {
        try {
            return m.invoke(of, args).toString();
        } catch (InvocationTargetException e) {
            return e.getCause().getClass().getName();
        }
    }

    private Method pick(Method[] methods) {
        if (random.nextInt(3) > 0) {
            return named(methods, OFTEN[random.nextInt(OFTEN.length)]);
        }
        Method m = methods[random.nextInt(methods.length)];
        boolean rare = m.getName().equals("load") || m.getName().equals("restore") || m.getName().equals("clearText");
        return rare && random.nextInt(4) > 0 ? named(methods, "ticks") : m;
    }

    private static Method named(Method[] methods, String name) {
        for (Method m : methods) {
            if (m.getName().equals(name)) {
                return m;
            }
        }
        throw new IllegalStateException(name);
    }

    /** The values that an argument of the method may have, as pairs of least and most. */
    private static int[] ranges(String name) {
        switch (name) {
            case "about":
                return new int[] {0, 9};
            case "lightOf":
                return new int[] {0, 5, 0, 8};
            case "boatOf":
                return new int[] {0, 7, 0, 8};
            case "brightness":
                return new int[] {0, 5, 0, 199};
            case "bestAt":
                return new int[] {0, 199, 0, 1};
            case "setting":
                return new int[] {0, 3};
            case "light":
                return new int[] {0, 199, 10, 99, 0, 2, 1, 20, 1, 6, 0, 2};
            case "boat":
                return new int[] {0, 199, -6, 6};
            case "steer":
                return new int[] {0, 7, -6, 6};
            case "talk":
                return new int[] {0, 7, 1, 99};
            case "lean":
                return new int[] {0, 5, -30, 30};
            case "dim":
                return new int[] {0, 5, 10, 99};
            case "set":
                return new int[] {0, 3, 1, 50};
            case "ticks":
                return new int[] {1, 20};
            case "handedIn":
                return new int[] {0, 7, 0, 2};
            case "ifMargin":
                return new int[] {0, 100, 1, 200, 0, 3};
            case "bestMargin":
                return new int[] {1, 100};
            case "border":
                return new int[] {0, 12};
            case "save":
            case "restore":
                return new int[] {0, 1};
            default:
                return new int[0];
        }
    }

    private Object[] arguments(Method m) {
        if (m.getName().equals("append")) {
            return new Object[] {sign()};
        }
        if (m.getName().equals("runScript")) {
            int n = random.nextInt(20) == 0 ? WILD[random.nextInt(WILD.length)] : 1 + random.nextInt(3);
            return new Object[] {n, script(random.nextInt(20) == 0 ? 3 : n)};
        }
        if (m.getName().equals("simulate")) {
            return new Object[] {random.nextLong(), random.nextInt(20) == 0 ? 61 : 1 + random.nextInt(60)};
        }
        int[] ranges = ranges(m.getName());
        Object[] args = new Object[m.getParameterCount()];
        for (int i = 0; i < args.length; i++) {
            int least = ranges[2 * i];
            int most = ranges[2 * i + 1];
            switch (random.nextInt(30)) {
                case 0:
                    args[i] = WILD[random.nextInt(WILD.length)];
                    break;
                case 1:
                    args[i] = random.nextBoolean() ? least - 1 : most + 1;
                    break;
                case 2:
                    args[i] = random.nextBoolean() ? least : most;
                    break;
                default:
                    args[i] = least + random.nextInt(most - least + 1);
                    break;
            }
        }
        return args;
    }

    /** The next sign of a text that is a coast, now and then another one. */
    private int sign() {
        if (random.nextInt(400) == 0) {
            return random.nextInt(300) - 20;
        }
        if (writing.isEmpty()) {
            boolean begins = model.errorPosition() == 0;
            writing = begins ? "C" : command();
        }
        int sign = writing.charAt(0);
        writing = writing.substring(1);
        return sign;
    }

    private String command() {
        switch (random.nextInt(6)) {
            case 0:
                return String.format("l%03d%02d%d%02d%d%d", random.nextInt(200), 10 + random.nextInt(90),
                        random.nextInt(3), 1 + random.nextInt(20), 1 + random.nextInt(6), random.nextInt(7));
            case 1:
                return String.format("b%03d%02d", random.nextInt(200), random.nextInt(13));
            case 2:
                return String.format("k%d%02d", random.nextInt(8), 1 + random.nextInt(99));
            case 3:
                return String.format("v%d%02d", random.nextInt(8), random.nextInt(13));
            case 4:
                return String.format("m%03d", random.nextInt(101));
            default:
                return String.format("t%02d", 1 + random.nextInt(60));
        }
    }

    private long script(int n) {
        if (random.nextInt(20) == 0) {
            return random.nextLong();
        }
        long script = 0;
        for (int i = 0; i < Math.max(1, Math.min(3, n)); i++) {
            script = script * 1000000 + group();
        }
        return script;
    }

    private long group() {
        int kind = random.nextInt(11);
        if (kind == 10) {
            return random.nextInt(1000000);
        }
        int number = kind == 1 ? 0 : random.nextInt(8 + random.nextInt(3));
        int[] most = {10, 61, 13, 100, 120, 61, 7, 200, 60, 5};
        long value = random.nextInt(most[kind]);
        if (kind == 7 && number < model.about(1)) {
            value = random.nextInt(3) > 0 ? model.boatOf(number, 0) : value;
        }
        if (random.nextInt(15) == 0) {
            value += random.nextBoolean() ? 100 : 1000;
        }
        return kind * 100000L + number * 10000L + value % 10000;
    }
}
