import java.lang.reflect.InvocationTargetException;
import java.lang.reflect.Method;
import java.lang.reflect.Modifier;
import java.util.ArrayList;
import java.util.Arrays;
import java.util.Comparator;
import java.util.List;
import java.util.Random;

/** Random calls answer as the model answers, and nothing throws but what a call's description names. */
public final class ModelTest {
    private static final int RUNS = 1200;
    // What an office answers after its 512th call is free.
    private static final int CALLS = 512;
    private static final int LONGEST_LINE = 17;
    private static final String LETTERS = "bdklmnrstaeiou";
    private static final String SIGNS = "npwtlfgmcoxd:>/=+;or0123456789ba ?";

    private final Random random;
    private final FerryTickets office = new FerryTickets();
    private final Model model = new Model();
    private int calls = 0;

    private ModelTest(long seed) {
        random = new Random(seed);
    }

    public static void main(String[] args) throws ReflectiveOperationException {
        List<Method> methods = new ArrayList<>();
        for (Method method : FerryTickets.class.getDeclaredMethods()) {
            if (Modifier.isPublic(method.getModifiers())) {
                methods.add(method);
            }
        }
        methods.sort(Comparator.comparing(Method::getName));
        for (int seed = 0; seed < RUNS; seed++) {
            new ModelTest(seed).run(seed, methods);
        }
        Expect.end("ModelTest");
    }

    private void run(int seed, List<Method> methods) throws ReflectiveOperationException {
        // Few clears and restores let the runs grow rich.
        for (int call = 0; calls < CALLS; call++) {
            int kind = random.nextInt(10);
            if (kind < 2 && random.nextInt(4) == 0) {
                text(seed, call, randomOrders());
            } else if (kind < 3) {
                spell(seed, call);
            } else {
                Method method = methods.get(random.nextInt(methods.size()));
                boolean isRare = List.of("clear", "restore", "throwAway", "append").contains(method.getName());
                if (!isRare || random.nextInt(6) == 0) {
                    compare(seed + "." + call, method, arguments(method));
                }
            }
            if (call % 16 == 0) {
                lines(seed + "." + call);
            }
        }
    }

    private void lines(String where) throws ReflectiveOperationException {
        Method line = FerryTickets.class.getMethod("line", int.class);
        Method character = FerryTickets.class.getMethod("character", int.class);
        compare(where, line, new Object[] {random.nextInt(4)});
        for (int i = 0; i <= LONGEST_LINE; i++) {
            compare(where, character, new Object[] {i});
        }
    }

    private void compare(String where, Method method, Object[] arguments) throws ReflectiveOperationException {
        if (calls >= CALLS) {
            return;
        }
        calls++;
        Object got = outcome(method, office, arguments);
        Object due = outcome(Model.class.getMethod(method.getName(), method.getParameterTypes()), model, arguments);
        Expect.same(where + " " + method.getName() + Arrays.toString(arguments), due, got);
        if (got instanceof Class<?> thrown) {
            boolean isNamed = Arrays.asList(method.getExceptionTypes()).contains(thrown);
            Expect.same(where + " " + method.getName() + " names " + thrown, true, isNamed);
        }
    }

    private static Object outcome(Method method, Object object, Object[] arguments) throws IllegalAccessException {
        try {
            return method.invoke(object, arguments);
        } catch (InvocationTargetException e) {
            return e.getCause().getClass();
        }
    }

    private Object[] arguments(Method method) {
        Class<?>[] types = method.getParameterTypes();
        Object[] arguments = new Object[types.length];
        for (int i = 0; i < types.length; i++) {
            if (types[i] == boolean.class) {
                arguments[i] = random.nextBoolean();
            } else if (types[i] == char.class) {
                arguments[i] = random.nextInt(20) == 0 ? (char) random.nextInt(65536) : anyOf(LETTERS);
            } else if (method.getName().equals("append")) {
                arguments[i] = random.nextInt(8) == 0 ? random.nextInt() : packed();
            } else {
                arguments[i] = number(method.getName().equals("account") ? 15 : 9);
            }
        }
        return arguments;
    }

    private int number(int bound) {
        int kind = random.nextInt(40);
        if (kind == 0) {
            return List.of(-1, Integer.MIN_VALUE, Integer.MAX_VALUE, 10).get(random.nextInt(4));
        }
        return random.nextInt(kind < 20 ? 4 : bound + 1);
    }

    private int packed() {
        int packed = 0;
        for (int i = 0; i < 4; i++) {
            packed = packed << 8 | (random.nextInt(3) == 0 ? 0 : anyOf(SIGNS));
        }
        return packed;
    }

    private char anyOf(String letters) {
        return letters.charAt(random.nextInt(letters.length()));
    }

    private void spell(int seed, int call) throws ReflectiveOperationException {
        String where = seed + "." + call;
        Method letter = FerryTickets.class.getMethod("letter", char.class);
        for (char one : word().toCharArray()) {
            compare(where, letter, new Object[] {one});
        }
        Method print = FerryTickets.class.getMethod("print", int.class, int.class, int.class);
        compare(where, print, new Object[] {number(4), number(4), 1 + number(3)});
    }

    private String word() {
        String[] some = {"ba", "be", "bad", "badu", "bedo", "banana", "kolibu", "aeiou", "sturdo", "d", "brr", "in", "da", "nadu"};
        return some[random.nextInt(some.length)];
    }

    private String randomOrders() {
        StringBuilder text = new StringBuilder();
        int orders = 1 + random.nextInt(4);
        for (int i = 0; i < orders; i++) {
            text.append(i == 0 ? "" : ";").append(order());
        }
        if (random.nextInt(3) == 0) {
            int at = random.nextInt(text.length());
            switch (random.nextInt(3)) {
                case 0 -> text.setCharAt(at, anyOf(SIGNS));
                case 1 -> text.deleteCharAt(at);
                default -> text.insert(at, anyOf(SIGNS));
            }
        }
        return text.length() > 60 ? text.substring(0, 60) : text.toString();
    }

    private String order() {
        String half = digit(4) + (random.nextBoolean() ? "o" : "r");
        return switch (random.nextInt(12)) {
            case 0 -> "n" + word() + ":" + digit(5) + ">" + digit(5) + "/" + digit(4);
            case 1 -> "p" + half + "=" + digit(3);
            case 2 -> "w" + half + "+" + digit(6);
            case 3 -> "t" + digit(4);
            case 4 -> "l" + half;
            case 5 -> "f" + half;
            case 6 -> "g" + half;
            case 7 -> "m" + digit(3) + "=" + digit(5);
            case 8 -> "c" + digit(5);
            case 9 -> "o" + digit(5);
            case 10 -> random.nextInt(5) == 0 ? "x" + digit(4) : "d";
            default -> "d";
        };
    }

    private String digit(int bound) {
        return "" + random.nextInt(random.nextInt(12) == 0 ? 10 : bound);
    }

    private void text(int seed, int call, String text) throws ReflectiveOperationException {
        String where = seed + "." + call;
        Method append = FerryTickets.class.getMethod("append", int.class);
        for (char one : text.toCharArray()) {
            compare(where, append, new Object[] {(int) one});
        }
        for (String name : List.of("read", "errorPosition", "refusedItem")) {
            compare(where + " \"" + text + "\"", FerryTickets.class.getMethod(name), new Object[0]);
        }
        compare(where, FerryTickets.class.getMethod("refusal", boolean.class), new Object[] {true});
        compare(where, FerryTickets.class.getMethod("refusal", boolean.class), new Object[] {false});
    }
}
