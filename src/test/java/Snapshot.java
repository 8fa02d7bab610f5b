import java.lang.reflect.Array;
import java.lang.reflect.Field;
import java.lang.reflect.InvocationTargetException;
import java.lang.reflect.Method;
import java.lang.reflect.Modifier;
import java.util.HashMap;
import java.util.IdentityHashMap;
import java.util.Map;

/**
 * What a pier, or a model with the same face, is at a moment, as one text: the answers of every asking call,
 * or what its fields hold.
 */
final class Snapshot {
    private static final Object[][] NUMBERED = {
        {"weight", 21}, {"stateOf", 21}, {"fresh", 21}, {"freshBits", 21}, {"iceOn", 21}, {"iceLasts", 21},
        {"price", 21}, {"priceByBuyers", 21}, {"buyerOf", 21}, {"paidFor", 21}, {"budget", 6},
    };
    private static final Object[][] PAIRED = {
        {"quota", 7, 4}, {"offer", 6, 20}, {"lotOn", 5, 6},
    };
    private static final String[] PLAIN = {
        "time", "beyond", "income", "incomeByLots", "spoiled", "soldShare", "meanPrice", "meanBits", "isSound",
    };

    /** Looking a method up is dear, and the runs ask for the same ones again and again. */
    private static final Map<String, Method> METHODS = new HashMap<>();

    private Snapshot() {
    }

    static String of(Object pier) {
        StringBuilder text = new StringBuilder();
        for (String name : PLAIN) {
            note(text, pier, name);
        }
        for (Object[] row : NUMBERED) {
            for (int first = 0; first < (Integer) row[1]; first++) {
                note(text, pier, (String) row[0], first);
            }
        }
        for (Object[] row : PAIRED) {
            for (int first = 0; first < (Integer) row[1]; first++) {
                for (int second = 0; second < (Integer) row[2]; second++) {
                    note(text, pier, (String) row[0], first, second);
                }
            }
        }
        noteWrittenQuotas(text, pier);
        return text.toString();
    }

    /** What the call answers, or the name of what it throws. */
    static String answer(Object pier, String name, Object... arguments) {
        try {
            return String.valueOf(methodOf(pier.getClass(), name, arguments).invoke(pier, arguments));
        } catch (InvocationTargetException thrown) {
            return "throws." + thrown.getCause().getClass().getName();
        } catch (ReflectiveOperationException missing) {
            throw new AssertionError(name, missing);
        }
    }

    /** What the fields hold, those of the objects behind them too; also what no asking call tells, as the clock. */
    static String inside(Object pier) {
        StringBuilder text = new StringBuilder();
        noteInside(text, pier, new IdentityHashMap<>());
        return text.toString();
    }

    private static Method methodOf(Class<?> owner, String name, Object... arguments) throws NoSuchMethodException {
        String key = owner.getName() + "." + name;
        Method method = METHODS.get(key);
        if (method == null) {
            Class<?>[] kinds = new Class<?>[arguments.length];
            for (int i = 0; i < kinds.length; i++) {
                kinds[i] = arguments[i] instanceof Boolean ? boolean.class : int.class;
            }
            method = owner.getDeclaredMethod(name, kinds);
            METHODS.put(key, method);
        }
        return method;
    }

    private static void noteInside(StringBuilder text, Object held, Map<Object, Integer> seen) {
        if (held == null || held instanceof Number || held instanceof Character || held instanceof Boolean
                || held instanceof String) {
            text.append(held);
        } else if (seen.containsKey(held)) {
            text.append('#').append(seen.get(held));
        } else {
            seen.put(held, seen.size());
            text.append('{');
            if (held.getClass().isArray()) {
                for (int i = 0; i < Array.getLength(held); i++) {
                    noteInside(text.append(' '), Array.get(held, i), seen);
                }
            } else {
                noteFields(text, held, seen);
            }
            text.append('}');
        }
    }

    private static void noteFields(StringBuilder text, Object held, Map<Object, Integer> seen) {
        try {
            for (Field field : held.getClass().getDeclaredFields()) {
                if (!Modifier.isStatic(field.getModifiers())) {
                    field.setAccessible(true);
                    noteInside(text.append(' ').append(field.getName()).append('='), field.get(held), seen);
                }
            }
        } catch (ReflectiveOperationException closed) {
            throw new AssertionError(held.getClass().getName(), closed);
        }
    }

    private static void noteWrittenQuotas(StringBuilder text, Object pier) {
        for (int boat = 0; boat < 6; boat++) {
            for (int species = 0; species < 4; species++) {
                for (int day = 0; day < 20; day++) {
                    note(text, pier, "quotaAt", boat, species, day);
                }
            }
        }
    }

    private static void note(StringBuilder text, Object pier, String name, Object... arguments) {
        text.append(name);
        for (Object argument : arguments) {
            text.append(' ').append(argument);
        }
        text.append(" = ").append(answer(pier, name, arguments)).append('\n');
    }
}
