import java.lang.reflect.Method;
import java.util.HashMap;
import java.util.Map;

/** A new object that is asked by calls told as texts, "near(21)"; MIN and MAX are the least and the largest int. */
final class Asked {
    /** What an object answers behind so many calls is free, so no test may look at it. */
    static final int MOST_CALLS = 512;

    private static final Map<String, Method> FACE = face();

    private final ButtonMatch x = new ButtonMatch();
    private int calls = 0;

    private static Map<String, Method> face() {
        Map<String, Method> face = new HashMap<>();
        for (Method method : ButtonMatch.class.getMethods()) {
            if (method.getDeclaringClass() == ButtonMatch.class) {
                face.put(method.getName(), method);
            }
        }
        return face;
    }

    static String nameOf(String call) {
        return call.substring(0, call.indexOf('('));
    }

    long ask(String call) {
        calls++;
        Method method = FACE.get(nameOf(call));
        if (calls > MOST_CALLS || method == null) {
            throw new IllegalArgumentException(call + " as call " + calls);
        }
        String inside = call.substring(call.indexOf('(') + 1, call.lastIndexOf(')')).strip();
        String[] told = inside.isEmpty() ? new String[0] : inside.split(",");
        Object[] arguments = new Object[told.length];
        for (int i = 0; i < told.length; i++) {
            arguments[i] = argument(told[i].strip());
        }
        try {
            return ((Number) method.invoke(x, arguments)).longValue();
        } catch (ReflectiveOperationException e) {
            throw new IllegalStateException(call, e.getCause() == null ? e : e.getCause());
        }
    }

    private static Object argument(String told) {
        switch (told) {
            case "true": return true;
            case "false": return false;
            case "MIN": return Integer.MIN_VALUE;
            case "MAX": return Integer.MAX_VALUE;
            default: return Integer.valueOf(told);
        }
    }

    /** All that can be seen of it but fault(), which it changes itself. */
    String state() {
        StringBuilder state = new StringBuilder();
        for (int k = 0; k < 4; k++) {
            state.append("SHEET ").append(k).append(sheetState(k)).append("; ");
        }
        add(state, "many(%d)", 4);
        add(state, "wanted(%d)", 4);
        add(state, "seen(%d)", 6);
        long tubes = ask("many(0)");
        for (int t = 0; t < tubes; t++) {
            add(state, "ofTube(" + t + ", %d)", 6);
        }
        add(state, "kinds(%d)", (int) tubes);
        add(state, "colours(%d)", (int) tubes);
        add(state, "memories(%d)", 2);
        state.append("nears ").append(ask("nears()")).append("; trace ").append(ask("trace()"));
        return state.append("; remembered ").append(remembered()).toString();
    }

    private void add(StringBuilder state, String call, int n) {
        for (int i = 0; i < n; i++) {
            String asked = String.format(call, i);
            state.append(asked).append(' ').append(ask(asked)).append("; ");
        }
    }

    private long remembered() {
        long was = ask("remember(0, 0)");
        if (was >= 0) {
            ask("remember(" + was / 10 + ", " + was % 10 + ")");
        }
        return was;
    }

    private String sheetState(int k) {
        for (int lane = 0; lane < 3; lane++) {
            StringBuilder cells = new StringBuilder(" of lane " + lane + ":");
            long cell = ask("cell(" + k + ", 0, " + lane + ")");
            for (int i = 1; cell != Long.MIN_VALUE; i++) {
                cells.append(' ').append(cell);
                cell = ask("cell(" + k + ", " + i + ", " + lane + ")");
            }
            long fault = ask("fault()");
            if (fault == 3) {
                return cells.toString();
            }
            if (fault == 1) {
                return " nothing";
            }
        }
        return " of no lane";
    }
}
