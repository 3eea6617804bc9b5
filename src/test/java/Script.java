import java.lang.reflect.InvocationTargetException;
import java.lang.reflect.Method;

/**
 * Runs calls that are written as in the document: "call(0, false) = 0; accept(1, 2) = throws IllegalStateException".
 * Names of constants may stand for numbers, and a call without "=" may answer anything but an exception.
 */
final class Script {
    private static int checked = 0;
    private static int wrong = 0;

    private Script() {
    }

    /** Runs the calls on a new object and returns it. */
    static TrunkGroup run(String title, String... lines) {
        TrunkGroup group = new TrunkGroup();
        more(group, title, lines);
        return group;
    }

    /** Runs the calls on an object that is there already. */
    static void more(TrunkGroup group, String title, String... lines) {
        for (String line : lines) {
            for (String step : line.split(";")) {
                if (!step.isBlank()) {
                    step(group, title, step.trim());
                }
            }
        }
    }

    private static void step(TrunkGroup group, String title, String step) {
        int open = step.indexOf('(');
        int close = step.indexOf(')');
        String name = step.substring(0, open).trim();
        String inside = step.substring(open + 1, close).trim();
        String[] words = inside.isEmpty() ? new String[0] : inside.split(",");
        String got = answer(group, name, words);
        int equals = step.indexOf('=', close);
        if (equals < 0) {
            expect(title + ": " + step + " throws", got.startsWith("throws "), false);
        } else {
            expect(title + ": " + step.substring(0, close + 1), got, due(step.substring(equals + 1).trim()));
        }
    }

    private static String due(String word) {
        if (word.startsWith("throws ") || word.equals("true") || word.equals("false")) {
            return word;
        }
        return Long.toString(number(word));
    }

    /** What a call answers, or "throws" and the exact class of the exception. */
    static String answer(Object group, String name, String... words) {
        Method method = methodOf(group.getClass(), name);
        Class<?>[] types = method.getParameterTypes();
        if (types.length != words.length) {
            throw new IllegalStateException("wrong number of arguments for " + name);
        }
        Object[] arguments = new Object[words.length];
        for (int i = 0; i < words.length; i++) {
            String word = words[i].trim();
            if (types[i] == boolean.class) {
                arguments[i] = Boolean.valueOf(word);
            } else {
                arguments[i] = Integer.valueOf((int) number(word));
            }
        }
        try {
            return String.valueOf(method.invoke(group, arguments));
        } catch (InvocationTargetException e) {
            return "throws " + e.getCause().getClass().getSimpleName();
        } catch (IllegalAccessException e) {
            throw new IllegalStateException(e);
        }
    }

    private static Method methodOf(Class<?> type, String name) {
        for (Method method : type.getMethods()) {
            if (method.getName().equals(name) && method.getDeclaringClass() == type) {
                return method;
            }
        }
        throw new IllegalStateException("no method " + name);
    }

    private static long number(String word) {
        char first = word.charAt(0);
        if (first == '-' || Character.isDigit(first)) {
            return Long.parseLong(word);
        }
        try {
            return TrunkGroup.class.getField(word).getInt(null);
        } catch (ReflectiveOperationException e) {
            throw new IllegalStateException("no constant " + word, e);
        }
    }

    static void expect(String what, Object got, Object want) {
        checked++;
        if (!got.equals(want)) {
            wrong++;
            if (wrong <= 40) {
                System.out.println(what + " answered " + got + ", due is " + want);
            }
        }
    }

    /** Says how it went and ends the program. */
    static void finish() {
        System.out.println(checked + " answers looked at, " + wrong + " wrong");
        System.exit(wrong == 0 && checked > 0 ? 0 : 1);
    }
}
