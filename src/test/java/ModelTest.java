import java.lang.reflect.Method;
import java.util.Arrays;
import java.util.HashMap;
import java.util.List;
import java.util.Map;
import java.util.Random;

/** All promises: long runs of calls, each answered by the class and by the Model; the same calls in every run. */
public final class ModelTest {
    /** Behind each call fault() is asked, too: together as many as an object is used for. */
    private static final int RUNS = 6000, CALLS = 256;
    private static final String[] NAMES = {"shop", "wanted", "seen", "ofTube", "remember", "near", "stock", "far",
        "search", "sieve", "quick", "signs", "sew", "set", "tin", "half", "reading", "back", "memories", "kinds",
        "colours", "nears", "sheet", "lose", "put", "cell", "copy", "tell", "rattle", "as", "trace", "fault", "many"};
    private static final int[] EDGES = {Integer.MIN_VALUE, Integer.MAX_VALUE, Integer.MAX_VALUE - 1, -1, -2, 61, 127,
        128, -129, 32768, 65536, 1 << 30};

    private static final Map<String, Method> ASKED = methods(ButtonMatch.class), MODELLED = methods(Model.class);

    private final Checks checks;
    private final Random random;
    private final ButtonMatch x = new ButtonMatch();
    private final Model model = new Model();
    private final int run;
    private int left = CALLS;

    private ModelTest(Checks checks, int run) {
        this.checks = checks;
        this.run = run;
        this.random = new Random(run);
    }

    public static void main(String[] args) {
        Checks checks = new Checks("ModelTest");
        for (int run = 0; run < RUNS; run++) {
            new ModelTest(checks, run).play();
        }
        checks.finish();
    }

    private void play() {
        while (left > 0) {
            int turn = digit(40);
            if (turn == 0) {
                openShop();
            } else if (turn < 4) {
                writeRow();
            } else {
                ask(NAMES[digit(NAMES.length)], number(), number(), number(), number(), number());
            }
        }
    }

    private void openShop() {
        StringBuilder text = new StringBuilder("b").append(colour()).append(digit(10)).append(holes());
        for (int place = 0; place < 7; place++) {
            text.append(digit(10));
        }
        for (int tubes = 1 + digit(6); tubes > 0; tubes--) {
            text.append(';').append("tso".charAt(digit(3))).append(colour()).append(digit(10)).append(holes());
            text.append(digit(10)).append(digit(10));
        }
        if (digit(4) == 0) {
            text.setCharAt(digit(text.length()), (char) (40 + digit(80)));
        }
        int k = digit(4);
        int lane = digit(3);
        ask("sheet", k, lane, text.length());
        for (int i = 0; i < text.length(); i++) {
            ask("put", k, i, text.charAt(i));
        }
        ask("shop", k, lane, 0, text.length() - (digit(8) == 0 ? digit(9) : 0));
    }

    /** A row of small numbers, by which a SEARCH or a SIEVING may go. */
    private void writeRow() {
        int k = digit(4);
        int lane = digit(3);
        int length = digit(8);
        ask("sheet", k, lane, length);
        for (int i = 0; i < length; i++) {
            ask("put", k, i, digit(5));
        }
        int n = digit(length + 1);
        ask(digit(2) == 0 ? "search" : "sieve", k, lane, digit(length - n + 1), n, digit(3));
    }

    private int digit(int n) {
        return random.nextInt(n);
    }

    private int colour() {
        return digit(3) == 0 ? digit(8) : 2 + digit(3);
    }

    private int holes() {
        return digit(4) == 0 ? 2 : 4;
    }

    private int number() {
        int sort = digit(20);
        return sort == 0 ? EDGES[digit(EDGES.length)] : sort == 1 ? -1 : sort < 4 ? digit(64)
                : sort < 8 ? digit(10) : digit(5);
    }

    private void ask(String name, int... numbers) {
        if (left == 0) {
            return;
        }
        left--;
        String told = "run " + run + ", call " + (CALLS - left) + ": " + name + " of " + Arrays.toString(numbers);
        checks.due(told, answer(x, name, numbers), answer(model, name, numbers));
        checks.due(told + ", fault", x.fault(), model.fault());
    }

    /** Calls a method by its name, with as many of the numbers as it takes. */
    private static long answer(Object of, String name, int[] numbers) {
        Method method = (of instanceof Model ? MODELLED : ASKED).get(name);
        Class<?>[] sorts = method.getParameterTypes();
        Object[] arguments = new Object[sorts.length];
        for (int i = 0; i < sorts.length; i++) {
            arguments[i] = sorts[i] == boolean.class ? (Object) (numbers[i] % 2 == 0) : (Object) numbers[i];
        }
        try {
            return ((Number) method.invoke(of, arguments)).longValue();
        } catch (ReflectiveOperationException e) {
            throw new IllegalStateException(name + " of " + Arrays.toString(numbers), e);
        }
    }

    private static Map<String, Method> methods(Class<?> of) {
        Map<String, Method> methods = new HashMap<>();
        for (Method method : of.getDeclaredMethods()) {
            if (List.of(NAMES).contains(method.getName())) {
                methods.put(method.getName(), method);
            }
        }
        return methods;
    }
}
