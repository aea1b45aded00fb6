import java.lang.reflect.InvocationTargetException;
import java.lang.reflect.Method;
import java.lang.reflect.Modifier;
import java.util.ArrayList;
import java.util.Arrays;
import java.util.Comparator;
import java.util.List;
import java.util.Random;

/** Long runs of calls, by seeds that are always the same, on Underpaint and on the model beside it. */
final class ModelTest {
    private static final int RUNS = 400;
    private static final int CALLS = 512;
    private static final int[] FAR = {-1, Integer.MIN_VALUE, Integer.MAX_VALUE, 9, 12, 40, 48, 100, 1000, 10000, 65536};
    /** What is called more often than the rest, as it makes the picture. */
    private static final String[] OFTEN = {"lay", "lay", "lay", "lay", "lay", "pass", "scratch", "scratch", "swab", "swab",
        "sign", "fill", "retouch", "takeBack", "takeBack", "takeBack", "checksum", "checksum", "note", "leg", "lend"};

    private ModelTest() {
    }

    static void run() {
        List<Method> methods = new ArrayList<>();
        for (Method m : Underpaint.class.getDeclaredMethods()) {
            if (Modifier.isPublic(m.getModifiers())) {
                methods.add(m);
            }
        }
        methods.sort(Comparator.comparing(Method::getName));
        List<Method> often = new ArrayList<>(methods);
        for (String name : OFTEN) {
            for (Method m : methods) {
                if (m.getName().equals(name)) {
                    often.add(m);
                }
            }
        }
        for (int seed = 0; seed < RUNS; seed++) {
            String fault = oneRun(seed, often);
            Check.tell(fault.isEmpty(), "run " + seed + " beside the model", fault, "no difference");
        }
    }

    private static String oneRun(int seed, List<Method> methods) {
        Random random = new Random(seed);
        Underpaint u = new Underpaint();
        Model model = new Model();
        int clashes = random.nextInt(12);
        for (int i = 0; i < CALLS; i++) {
            Method m = methods.get(random.nextInt(methods.size()));
            if (i < 10 + clashes) {
                m = named(methods, i < 10 ? "stuff" : "clash");
            }
            Object[] args = arguments(m, random, model, seed % 4 == 0 ? 6 : 40);
            String got = answer(u, m, args);
            String due = answer(model, m, args);
            if (!got.equals(due)) {
                return "call " + i + " " + m.getName() + Arrays.toString(args) + " answered " + got + ", the model " + due;
            }
        }
        return u.checksum() == model.checksum() ? "" : "the sum at the end";
    }

    private static Method named(List<Method> methods, String name) {
        for (Method m : methods) {
            if (m.getName().equals(name)) {
                return m;
            }
        }
        throw new IllegalStateException(name);
    }

    private static String answer(Object on, Method m, Object[] args) {
        try {
            return String.valueOf(on.getClass().getMethod(m.getName(), m.getParameterTypes()).invoke(on, args));
        } catch (InvocationTargetException e) {
            Throwable cause = e.getCause();
            boolean isOwn = cause.getStackTrace()[0].getClassName().equals(on.getClass().getName());
            return (isOwn ? "" : "the machine's ") + cause.getClass().getSimpleName();
        } catch (ReflectiveOperationException e) {
            throw new IllegalStateException(e);
        }
    }

    private static Object[] arguments(Method m, Random random, Model model, int rarely) {
        Class<?>[] types = m.getParameterTypes();
        Object[] args = new Object[types.length];
        int[] numbers = numbers(m.getName(), random, model);
        for (int i = 0; i < args.length; i++) {
            if (types[i] == boolean.class) {
                args[i] = random.nextInt(3) > 0;
            } else if (types[i] == char.class) {
                args[i] = letter(m.getName(), random, rarely);
            } else {
                boolean isBad = random.nextInt(rarely) == 0 && random.nextInt(3) == 0;
                args[i] = isBad ? FAR[random.nextInt(FAR.length)] : numbers[i];
            }
        }
        return args;
    }

    private static char letter(String name, Random random, int rarely) {
        String letters = name.equals("stuff") ? "ssgdppzzvvfrx" : name.equals("layerAt") ? "stycg"
            : name.equals("ballot") ? "leh" : "pwhlr";
        if (random.nextInt(rarely * 4) == 0) {
            return (char) random.nextInt(random.nextBoolean() ? 128 : 65536);
        }
        return letters.charAt(random.nextInt(letters.length()));
    }

    /** Numbers that are mostly in range, for places that are mostly the same few. */
    private static int[] numbers(String name, Random r, Model model) {
        int x = r.nextInt(3) > 0 ? 1 + r.nextInt(2) : r.nextInt(8);
        int y = r.nextInt(3) > 0 ? r.nextInt(2) : r.nextInt(6);
        int stuff = r.nextInt(11);
        switch (name) {
            case "stuff":
                return new int[] {0, r.nextInt(100), 1 + r.nextInt(100), r.nextInt(10), r.nextInt(10), r.nextInt(10),
                    r.nextInt(10), 1500 + r.nextInt(300)};
            case "clash":
                return new int[] {stuff, r.nextInt(11)};
            case "lay":
                boolean isWide = r.nextInt(4) == 0;
                return new int[] {stuff, 1 + r.nextInt(r.nextBoolean() ? 30 : 200), isWide ? 0 : x, isWide ? 0 : y,
                    isWide ? 7 : x + r.nextInt(2), isWide ? 5 : y + r.nextInt(2)};
            case "layerAt":
                return new int[] {x, y, r.nextInt(5)};
            case "light":
                return new int[] {r.nextInt(10)};
            case "pass":
                return new int[] {1 + r.nextInt(r.nextInt(4) == 0 ? 50 : 8)};
            case "view":
            case "note":
            case "noted":
                return new int[] {0, x, y};
            case "guessAt":
                return new int[] {x, y, r.nextInt(r.nextBoolean() ? 8 : 300), r.nextInt(4)};
            case "original":
            case "tooYoung":
                return new int[] {1500 + r.nextInt(400)};
            case "ring":
                return new int[] {1 + r.nextInt(99)};
            case "painter":
            case "likely":
            case "isSure":
                return new int[] {r.nextInt(100), r.nextInt(100), r.nextInt(100), r.nextInt(100)};
            case "scratch":
                return new int[] {x, y, 1 + r.nextInt(r.nextBoolean() ? 20 : 300)};
            case "liesOver":
            case "later":
                return new int[] {r.nextInt(1 + model.scratches()), r.nextInt(1 + model.scratches())};
            case "solvent":
                return new int[] {1 + r.nextInt(9), 1 + r.nextInt(20)};
            case "tested":
                return new int[] {r.nextInt(6)};
            case "swab":
                return new int[] {r.nextInt(4), x, y, 1 + r.nextInt(r.nextInt(3) > 0 ? 5 : 60)};
            case "fill":
                return new int[] {some('f', r, model), x, y};
            case "retouch":
                return new int[] {some('r', r, model), x, y, r.nextInt(100)};
            case "threads":
                return new int[] {r.nextInt(65536)};
            case "leg":
                return new int[] {r.nextInt(10), r.nextInt(100)};
            case "actAt":
            case "takeBack":
                return new int[] {r.nextInt(1 + model.acts())};
            default:
                return new int[] {x, y, r.nextInt(100), r.nextInt(100)};
        }
    }

    /** A stuff of a kind, if there is one; now and then another. */
    private static int some(char kind, Random r, Model model) {
        int stuff = r.nextInt(11);
        for (int i = 0; i < 30 && r.nextInt(20) > 0 && !model.isOf(stuff, kind); i++) {
            stuff = r.nextInt(12);
        }
        return stuff;
    }
}
