import java.lang.reflect.InvocationTargetException;
import java.lang.reflect.Method;
import java.lang.reflect.Modifier;
import java.util.HashMap;
import java.util.Map;

/** A call written as the document writes it, "change(1, 0, 1, 30)", perhaps with what is due: "change(1, 0, 1, 30) = 70". */
final class Row {
    private static final Map<String, Method> METHODS = methods();

    final String call;
    private final Method method;
    private final Object[] arguments;
    /** Null when none is told. */
    final Integer due;

    Row(String text) {
        int equals = text.indexOf('=');
        call = (equals < 0 ? text : text.substring(0, equals)).trim();
        due = equals < 0 ? null : number(text.substring(equals + 1).trim());
        int open = call.indexOf('(');
        String inside = call.substring(open + 1, call.length() - 1).trim();
        String[] words = inside.isEmpty() ? new String[0] : inside.split(" *, *");
        method = METHODS.get(call.substring(0, open));
        if (method == null || method.getParameterCount() != words.length) {
            throw new IllegalArgumentException("no such call: " + text);
        }
        Class<?>[] types = method.getParameterTypes();
        arguments = new Object[words.length];
        for (int i = 0; i < words.length; i++) {
            arguments[i] = types[i] == boolean.class ? (Object) words[i].equals("true") : (Object) number(words[i]);
        }
    }

    static Row[] of(String... texts) {
        Row[] rows = new Row[texts.length];
        for (int i = 0; i < rows.length; i++) {
            rows[i] = new Row(texts[i]);
        }
        return rows;
    }

    private static int number(String word) {
        return word.equals("MIN") ? Integer.MIN_VALUE : word.equals("MAX") ? Integer.MAX_VALUE : Integer.parseInt(word);
    }

    private static Map<String, Method> methods() {
        Map<String, Method> methods = new HashMap<>();
        for (Method method : StateChannels.class.getDeclaredMethods()) {
            if (Modifier.isPublic(method.getModifiers())) {
                methods.put(method.getName(), method);
            }
        }
        return methods;
    }

    int on(StateChannels x) {
        try {
            return (Integer) method.invoke(x, arguments);
        } catch (InvocationTargetException e) {
            throw new IllegalStateException(call + " threw", e.getCause());
        } catch (IllegalAccessException e) {
            throw new IllegalStateException(call, e);
        }
    }
}
