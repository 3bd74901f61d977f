import java.lang.reflect.InvocationTargetException;
import java.lang.reflect.Method;
import java.lang.reflect.Modifier;
import java.util.HashMap;
import java.util.Map;

/**
 * An object, and calls on it that are written as the document writes them: "lawn(2, 8)". Besides these:
 * typed("gg/gg") types each letter; text("gg/gg;r0001") types them and calls garden(); cells(1) is cell(.., 1) of each
 * cell; counts() is each count. "minutes(60) x 166" is called so often; its last answer is the answer.
 */
final class Said {
    private static final Map<String, Long> WORDS = new HashMap<>();
    private static final Map<String, Method> METHODS = new HashMap<>();

    static {
        WORDS.put("BAD", -1L);
        WORDS.put("NOT", -2L);
        WORDS.put("FULL", -3L);
        WORDS.put("NONE", -4L);
        WORDS.put("NULL", -11L);
        WORDS.put("CAST", -12L);
        WORDS.put("INDEX", -13L);
        WORDS.put("SIZE", -14L);
        WORDS.put("LOW", (long) Integer.MIN_VALUE);
        WORDS.put("HIGH", (long) Integer.MAX_VALUE);
        WORDS.put("LOWEST", Long.MIN_VALUE);
        WORDS.put("HIGHEST", Long.MAX_VALUE);
        for (Method m : LawnRings.class.getDeclaredMethods()) {
            if (Modifier.isPublic(m.getModifiers())) {
                METHODS.put(m.getName(), m);
            }
        }
    }

    private final LawnRings x = new LawnRings();
    private int calls = 0;

    /** The document promises nothing about an object after so many calls. */
    boolean isWithinCalls() {
        return calls <= 512;
    }

    static long value(String word) {
        Long named = WORDS.get(word);
        return named == null ? Long.parseLong(word) : named;
    }

    /** What a call answers; of "counts()" and "cells(what)" all answers, with blanks between. */
    String answer(String said) {
        int times = 1;
        int cross = said.lastIndexOf(") x ");
        if (cross > 0) {
            times = Integer.parseInt(said.substring(cross + 4).strip());
            said = said.substring(0, cross + 1);
        }
        String answer = "";
        for (int i = 0; i < times; i++) {
            answer = once(said);
        }
        return answer;
    }

    private String once(String said) {
        String name = said.substring(0, said.indexOf('('));
        String inner = said.substring(said.indexOf('(') + 1, said.lastIndexOf(')'));
        switch (name) {
            case "typed":
                return "" + typed(inner.substring(1, inner.length() - 1));
            case "text":
                typed(inner.substring(1, inner.length() - 1));
                return "" + call("garden");
            case "counts":
                return counts();
            case "cells":
                return cells((int) value(inner.strip()));
            default:
                return "" + call(name, values(inner));
        }
    }

    private int typed(String letters) {
        int last = 0;
        for (int i = 0; i < letters.length(); i++) {
            last = call("type", letters.charAt(i));
        }
        return last;
    }

    String counts() {
        StringBuilder all = new StringBuilder();
        for (int what = 0; what <= 12; what++) {
            all.append(what == 0 ? "" : " ").append(call("count", what));
        }
        return all.toString();
    }

    String cells(int what) {
        StringBuilder all = new StringBuilder();
        int many = call("count", 0) * call("count", 1);
        for (int c = 0; c < many; c++) {
            all.append(c == 0 ? "" : " ").append(call("cell", c, what));
        }
        return all.toString();
    }

    private static long[] values(String words) {
        String[] each = words.isBlank() ? new String[0] : words.split(",");
        long[] values = new long[each.length];
        for (int i = 0; i < each.length; i++) {
            values[i] = value(each[i].strip());
        }
        return values;
    }

    int call(String name, long... values) {
        Method m = METHODS.get(name);
        if (m == null || m.getParameterCount() != values.length) {
            throw new IllegalArgumentException("no such call: " + name + " of " + values.length);
        }
        Object[] given = new Object[values.length];
        for (int i = 0; i < values.length; i++) {
            if (m.getParameterTypes()[i] == int.class) {
                given[i] = Math.toIntExact(values[i]);
            } else {
                given[i] = values[i];
            }
        }
        calls++;
        try {
            return (int) m.invoke(x, given);
        } catch (IllegalAccessException | InvocationTargetException e) {
            throw new IllegalStateException(name + " threw", e);
        }
    }
}
