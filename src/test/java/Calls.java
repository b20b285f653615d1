import java.lang.reflect.InvocationTargetException;
import java.lang.reflect.Method;
import java.util.HashMap;
import java.util.Map;

/** Calls written as text, as the issues write them: "read(0, 1, 2, 0, 0)"; MAX and MIN are the ends of the ints. */
final class Calls {
    private static final Map<String, Method> METHODS = new HashMap<>();

    private Calls() {
    }

    /** The answer of the call on a RunLaws or on the model, which have methods of the same names. */
    static long on(Object target, String call) {
        int open = call.indexOf('(');
        Method method = methodOf(target, call.substring(0, open));
        String inside = call.substring(open + 1, call.length() - 1).trim();
        String[] words = inside.isEmpty() ? new String[0] : inside.split(", *");
        if (words.length != method.getParameterCount()) {
            throw new IllegalStateException("not so many parameters: " + call);
        }
        Object[] numbers = new Object[words.length];
        for (int n = 0; n < words.length; n++) {
            numbers[n] = numberOf(words[n]);
        }
        try {
            return ((Number) method.invoke(target, numbers)).longValue();
        } catch (IllegalAccessException | InvocationTargetException wrong) {
            throw new IllegalStateException(call + " threw", wrong);
        }
    }

    private static Method methodOf(Object target, String name) {
        String key = target.getClass().getName() + "." + name;
        Method known = METHODS.get(key);
        if (known != null) {
            return known;
        }
        for (Method method : target.getClass().getDeclaredMethods()) {
            if (method.getName().equals(name)) {
                method.setAccessible(true);
                METHODS.put(key, method);
                return method;
            }
        }
        throw new IllegalStateException("no such call: " + name);
    }

    private static int numberOf(String word) {
        if (word.equals("MAX")) {
            return Integer.MAX_VALUE;
        }
        return word.equals("MIN") ? Integer.MIN_VALUE : Integer.parseInt(word);
    }

    /** The call with a number in the place of its #. */
    static String with(String pattern, int number) {
        return pattern.replace("#", Integer.toString(number));
    }
}
