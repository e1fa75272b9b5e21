import java.lang.reflect.InvocationTargetException;
import java.lang.reflect.Method;
import java.lang.reflect.Modifier;
import java.util.ArrayList;
import java.util.Arrays;
import java.util.HashMap;
import java.util.List;
import java.util.Map;

/**
 * Calls told as texts ("read 0 1"), so that the program and the plain model can be asked the same. "letters ..." feeds
 * what stands behind it, "tell ..." has it taken as a train, too.
 */
final class Calls {
    private static final Map<String, Method> FOUND = new HashMap<>();

    private Calls() {
    }

    /** The names of all calls of the face. */
    static List<String> names() {
        List<String> names = new ArrayList<>();
        for (Method method : OverTheShoulder.class.getDeclaredMethods()) {
            if (Modifier.isPublic(method.getModifiers())) {
                names.add(method.getName());
            }
        }
        names.sort(null);
        return names;
    }

    /** How many numbers a call takes. */
    static int numbers(String name) {
        return find(OverTheShoulder.class, name).getParameterCount();
    }

    static long ask(Object asked, String call) {
        String[] words = call.split(" ");
        if (words[0].equals("letters") || words[0].equals("tell")) {
            for (char letter : words[1].toCharArray()) {
                ask(asked, "feed", (int) letter);
            }
            return words[0].equals("tell") ? ask(asked, "train", new Object[0]) : 0;
        }
        Object[] numbers = new Object[words.length - 1];
        for (int i = 0; i < numbers.length; i++) {
            numbers[i] = Integer.parseInt(words[i + 1]);
        }
        return ask(asked, words[0], numbers);
    }

    private static long ask(Object asked, String name, Object... numbers) {
        try {
            return ((Number) find(asked.getClass(), name).invoke(asked, numbers)).longValue();
        } catch (InvocationTargetException | IllegalAccessException e) {
            throw new IllegalStateException(name + Arrays.toString(numbers), e);
        }
    }

    private static Method find(Class<?> of, String name) {
        return FOUND.computeIfAbsent(of.getName() + "." + name, key -> {
            for (Method method : of.getDeclaredMethods()) {
                if (method.getName().equals(name) && !Modifier.isPrivate(method.getModifiers())) {
                    return method;
                }
            }
            throw new IllegalArgumentException("no call " + key);
        });
    }
}
