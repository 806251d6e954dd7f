import java.lang.reflect.Method;
import java.util.ArrayList;
import java.util.Arrays;
import java.util.Comparator;
import java.util.List;
import java.util.Random;

/** Drawn runs of calls, on streets drawn and written, compared with the model call by call. */
final class ModelTest {
    private static final int RUNS = 400;
    private static final int CALLS = 512;
    private static final int[] ODD = {-1, -2, 100, 10000, Integer.MIN_VALUE, Integer.MAX_VALUE};

    private final Random random;
    private final ApologyBells bells = new ApologyBells();
    private final Model model = new Model();
    private final List<String> said = new ArrayList<>();
    private int calls;

    private ModelTest(int seed) {
        random = new Random(seed);
    }

    public static void main(String[] args) throws ReflectiveOperationException {
        for (int seed = 0; seed < RUNS; seed++) {
            if (!new ModelTest(seed).run()) {
                System.exit(1);
            }
        }
        System.out.println("all answers are as the model's");
    }

    private boolean run() throws ReflectiveOperationException {
        Method[] methods = Arrays.stream(ApologyBells.class.getDeclaredMethods())
            .filter(m -> java.lang.reflect.Modifier.isPublic(m.getModifiers()))
            .sorted(Comparator.comparing(Method::getName)).toArray(Method[]::new);
        if (random.nextInt(8) != 0 && !writeAndLay()) {
            return false;
        }
        while (calls < CALLS) {
            Method method = methods[random.nextInt(methods.length)];
            // A street laid anew ends all that was built up, and pass soon forgives all.
            boolean rare = List.of("lay", "wipe", "pass", "back").contains(method.getName());
            if (rare && random.nextInt(4) != 0) {
                continue;
            }
            if (method.getName().equals("lay") && random.nextInt(3) != 0) {
                if (!writeAndLay()) {
                    return false;
                }
            } else if (!same(method.getName(), arguments(method))) {
                return false;
            }
        }
        return true;
    }

    private boolean writeAndLay() throws ReflectiveOperationException {
        boolean same = same("wipe");
        for (char letter : drawnText().toCharArray()) {
            same = same && same("write", (int) letter);
        }
        return same && same("fault") && same("lay");
    }

    private Object[] arguments(Method method) {
        Object[] drawn = new Object[method.getParameterCount()];
        for (int i = 0; i < drawn.length; i++) {
            drawn[i] = random.nextInt(40) == 0 ? ODD[random.nextInt(ODD.length)] : argument(method.getName(), i);
        }
        return drawn;
    }

    private int argument(String method, int i) {
        switch (method) {
            case "write": return random.nextInt(4) == 0 ? 30 + random.nextInt(99) : "wmb0123456789,;".charAt(random.nextInt(15));
            case "pass": return random.nextInt(5) == 0 ? random.nextInt(27) : 1 + random.nextInt(2);
            case "by": return random.nextInt(62);
            case "note": return i == 0 ? random.nextInt(42) : random.nextInt(random.nextBoolean() ? 102 : 8);
            case "casts": return i == 0 ? random.nextInt(102) : random.nextInt(3);
            case "year": return i == 0 ? random.nextInt(10001) : i == 1 ? random.nextInt(62) : random.nextInt(3);
            case "count": return random.nextInt(13);
            default: break;
        }
        if (i == 0) {
            return method.equals("hours") ? random.nextInt(9) - 1 : random.nextInt(8);
        }
        switch (method) {
            case "loud": return random.nextInt(42);
            case "cast": return i == 1 ? random.nextInt(12) : random.nextBoolean() ? 0 : random.nextInt(32);
            case "hang":
            case "cheap": return i == 1 ? random.nextInt(42) : random.nextInt(random.nextInt(5) == 0 ? 25 : 3);
            case "snow": return i == 1 ? random.nextInt(10) : i == 2 ? random.nextInt(12) : random.nextInt(3);
            default: return random.nextInt(7);
        }
    }

    private String drawnText() {
        int far = random.nextBoolean() ? 41 : 12;
        StringBuilder text = new StringBuilder();
        int wrongs = 1 + random.nextInt(7);
        for (int w = 0; w < wrongs; w++) {
            text.append(item('w', random.nextInt(4), random.nextInt(far), 1 + random.nextInt(random.nextBoolean() ? 20 : 4)));
        }
        for (int w = 0; w < wrongs; w++) {
            if (random.nextInt(4) != 0) {
                int tin = random.nextBoolean() ? 0 : random.nextInt(31);
                text.append(item('b', w, 1 + random.nextInt(random.nextBoolean() ? 30 : 6), tin, random.nextInt(far), random.nextInt(2)));
            }
        }
        if (random.nextBoolean()) {
            text.append(item('m', random.nextInt(100), random.nextInt(100)));
        }
        if (random.nextInt(4) == 0) {
            spoil(text);
        }
        return text.toString();
    }

    private String item(char letter, int... numbers) {
        StringBuilder text = new StringBuilder().append(letter);
        for (int i = 0; i < numbers.length; i++) {
            text.append(i == 0 ? "" : ",").append(numbers[i] < 10 && random.nextInt(9) == 0 ? "0" : "").append(numbers[i]);
        }
        return text.append(';').toString();
    }

    private void spoil(StringBuilder text) {
        int at = random.nextInt(text.length());
        char letter = "wmb0123456789,; x".charAt(random.nextInt(17));
        switch (random.nextInt(3)) {
            case 0: text.setCharAt(at, letter); break;
            case 1: text.insert(at, letter); break;
            default: text.deleteCharAt(at); break;
        }
    }

    private boolean same(String name, Object... arguments) throws ReflectiveOperationException {
        if (calls >= CALLS) {
            // What later calls answer is free.
            return true;
        }
        Class<?>[] types = new Class<?>[arguments.length];
        Arrays.fill(types, int.class);
        calls++;
        Object got = ApologyBells.class.getMethod(name, types).invoke(bells, arguments);
        Object want = Model.class.getDeclaredMethod(name, types).invoke(model, arguments);
        said.add(name + Arrays.toString(arguments) + " -> " + got);
        if (got.equals(want)) {
            return true;
        }
        said.forEach(System.out::println);
        System.out.println("the last one answered " + got + ", the model's is " + want);
        return false;
    }
}
