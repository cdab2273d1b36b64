import java.lang.reflect.InvocationTargetException;
import java.lang.reflect.Method;
import java.util.ArrayList;
import java.util.List;

/** An object together with all calls that have been done on it, so that another one like it can be made. */
final class Run {
    private final SlantYard yard = new SlantYard();
    private final List<String> calls = new ArrayList<>();

    /**
     * Does a call, written as "put 0 0 1", and tells its answer, or "throws." and the exception's name. Two words
     * stand for several calls: "type 00+1" appends each character, "puts 2 1 5" puts five blocks of the colour 0.
     */
    String told(String call) {
        calls.add(call);
        String[] words = call.split(" ");
        switch (words[0]) {
            case "type":
                return type(words[1]);
            case "puts":
                return puts(number(words[1]), number(words[2]), number(words[3]));
            default:
                return answer(words);
        }
    }

    int length() {
        return calls.size();
    }

    /** A new object with the first so many calls of this one. */
    Run again(int first) {
        Run other = new Run();
        for (String call : calls.subList(0, first)) {
            other.told(call);
        }
        return other;
    }

    /** The whole state as a text: the digest now and behind each undo; so no saved state is left then. */
    String whole() {
        StringBuilder text = new StringBuilder(told("digest"));
        for (int states = 0; states < 20; states++) {
            String left = told("undo");
            text.append(' ').append(left);
            if (left.startsWith("throws.")) {
                break;
            }
            text.append(": ").append(told("digest"));
        }
        return text.toString();
    }

    private static int number(String word) {
        return Integer.parseInt(word);
    }

    private String answer(String[] words) {
        Object[] arguments = new Object[words.length - 1];
        Class<?>[] types = new Class<?>[words.length - 1];
        for (int k = 0; k < arguments.length; k++) {
            arguments[k] = number(words[k + 1]);
            types[k] = int.class;
        }
        try {
            Method method = SlantYard.class.getMethod(words[0], types);
            return String.valueOf(method.invoke(yard, arguments));
        } catch (InvocationTargetException e) {
            return "throws." + e.getCause().getClass().getSimpleName();
        } catch (ReflectiveOperationException e) {
            return "no such call: " + e;
        }
    }

    private String type(String text) {
        int length = 0;
        for (int index = 0; index < text.length(); index++) {
            length = yard.append(text.charAt(index));
        }
        return String.valueOf(length);
    }

    private String puts(int x, int y, int blocks) {
        int height = 0;
        for (int k = 0; k < blocks; k++) {
            height = yard.put(x, y, 0);
        }
        return String.valueOf(height);
    }
}
