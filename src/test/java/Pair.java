import java.lang.reflect.Method;
import java.lang.reflect.Modifier;
import java.nio.charset.StandardCharsets;
import java.util.ArrayList;
import java.util.Comparator;
import java.util.List;

/** A new object and a new model, which have to answer each call alike, with the same STATUS and FRACTION. */
final class Pair {
    final KiteLand land = new KiteLand();
    private final Model model = new Model();
    private final List<String> calls = new ArrayList<>();
    private final List<Method> methods = new ArrayList<>();

    Pair() {
        for (Method m : KiteLand.class.getDeclaredMethods()) {
            if (Modifier.isPublic(m.getModifiers())) {
                methods.add(m);
            }
        }
        methods.sort(Comparator.comparing(Method::getName));
    }

    List<Method> methods() {
        return methods;
    }

    List<String> calls() {
        return calls;
    }

    /** Puts a text on the tape and has it read: null, or what was answered unlike. */
    String tell(String text, String reader) throws ReflectiveOperationException {
        byte[] bytes = text.getBytes(StandardCharsets.ISO_8859_1);
        String wrong = call("told", 7);
        for (int i = 0; i < bytes.length && wrong == null; i += 20) {
            Object[] words = new Object[5];
            for (int j = 0; j < 5; j++) {
                int word = 0;
                for (int k = i + 4 * j; k < i + 4 * j + 4; k++) {
                    word = word << 8 | (k < bytes.length ? bytes[k] & 255 : 0);
                }
                words[j] = word;
            }
            wrong = call("feed", words);
        }
        wrong = wrong != null ? wrong : call(reader, bytes.length);
        wrong = wrong != null ? wrong : call("fault", 0);
        return wrong != null ? wrong : call("fault", 1);
    }

    String call(String name, Object... arguments) throws ReflectiveOperationException {
        for (Method m : methods) {
            if (m.getName().equals(name)) {
                return call(m, arguments);
            }
        }
        throw new IllegalArgumentException(name);
    }

    /** Null, or what was answered unlike. */
    String call(Method m, Object... arguments) throws ReflectiveOperationException {
        StringBuilder told = new StringBuilder(m.getName()).append('(');
        for (int i = 0; i < arguments.length; i++) {
            told.append(i == 0 ? "" : ", ").append(arguments[i]);
        }
        calls.add(told.append(')').toString());
        Object due = Model.class.getMethod(m.getName(), m.getParameterTypes()).invoke(model, arguments);
        String want = due + " status " + model.status() + " fraction " + model.top() + "/" + model.bottom();
        Object got = m.invoke(land, arguments);
        String have = got + " status " + land.status() + " fraction " + land.top() + "/" + land.bottom();
        return want.equals(have) ? null : told + " answered " + have + ", due is " + want + " behind " + calls;
    }
}
