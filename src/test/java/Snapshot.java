import java.lang.reflect.InvocationTargetException;
import java.lang.reflect.Method;

/** The answers of every asking call of a pier, or of a model with the same face, as one text. */
final class Snapshot {
    private static final Object[][] NUMBERED = {
        {"weight", 21}, {"stateOf", 21}, {"fresh", 21}, {"freshBits", 21}, {"iceOn", 21}, {"iceLasts", 21},
        {"price", 21}, {"priceByBuyers", 21}, {"buyerOf", 21}, {"paidFor", 21}, {"budget", 6},
    };
    private static final Object[][] PAIRED = {
        {"quota", 7, 4}, {"offer", 6, 20}, {"lotOn", 5, 6},
    };
    private static final String[] PLAIN = {
        "time", "beyond", "income", "incomeByLots", "spoiled", "soldShare", "meanPrice", "meanBits", "isSound",
    };

    private Snapshot() {
    }

    static String of(Object pier) {
        StringBuilder text = new StringBuilder();
        for (String name : PLAIN) {
            note(text, pier, name);
        }
        for (Object[] row : NUMBERED) {
            for (int first = 0; first < (Integer) row[1]; first++) {
                note(text, pier, (String) row[0], first);
            }
        }
        for (Object[] row : PAIRED) {
            for (int first = 0; first < (Integer) row[1]; first++) {
                for (int second = 0; second < (Integer) row[2]; second++) {
                    note(text, pier, (String) row[0], first, second);
                }
            }
        }
        noteWrittenQuotas(text, pier);
        return text.toString();
    }

    /** What the call answers, or the name of what it throws. */
    static String answer(Object pier, String name, Object... arguments) {
        Class<?>[] kinds = new Class<?>[arguments.length];
        for (int i = 0; i < kinds.length; i++) {
            kinds[i] = arguments[i] instanceof Boolean ? boolean.class : int.class;
        }
        try {
            Method method = pier.getClass().getDeclaredMethod(name, kinds);
            return String.valueOf(method.invoke(pier, arguments));
        } catch (InvocationTargetException thrown) {
            return "throws." + thrown.getCause().getClass().getName();
        } catch (ReflectiveOperationException missing) {
            throw new AssertionError(name, missing);
        }
    }

    private static void noteWrittenQuotas(StringBuilder text, Object pier) {
        for (int boat = 0; boat < 6; boat++) {
            for (int species = 0; species < 4; species++) {
                for (int day = 0; day < 20; day++) {
                    note(text, pier, "quotaAt", boat, species, day);
                }
            }
        }
    }

    private static void note(StringBuilder text, Object pier, String name, Object... arguments) {
        text.append(name);
        for (Object argument : arguments) {
            text.append(' ').append(argument);
        }
        text.append(" = ").append(answer(pier, name, arguments)).append('\n');
    }
}
