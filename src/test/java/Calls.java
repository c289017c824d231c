import java.lang.reflect.Method;
import java.lang.reflect.Modifier;
import java.util.Set;
import java.util.TreeSet;

/**
 * Calls on one new object, told in words: "asks 0 1" is asks(0, 1), "tell f0;n;" is a letter of
 * each sign and court() behind them, "12* asks 0 1" is twelve times the same.
 */
final class Calls {
    /** What an object answers behind so many calls is free. */
    static final int MOST = 512;

    private static final int[] PARTS = {4, 3, 4};

    private final JuryHearsAnswers x = new JuryHearsAnswers();
    private int made;

    /** The methods of the face, by their names. */
    static Set<String> face() {
        Set<String> names = new TreeSet<>();
        for (Method method : JuryHearsAnswers.class.getDeclaredMethods()) {
            if (Modifier.isPublic(method.getModifiers())) {
                names.add(method.getName());
            }
        }
        return names;
    }

    int made() {
        return made;
    }

    /** The answer of the last one. */
    long make(String words) {
        int star = words.indexOf("* ");
        if (star >= 0) {
            long answer = 0;
            for (int i = Integer.parseInt(words.substring(0, star)); i > 0; i--) {
                answer = make(words.substring(star + 2));
            }
            return answer;
        }
        return words.startsWith("tell ") ? tell(words.substring(5)) : call(words.split(" "));
    }

    private long tell(String text) {
        for (int i = 0; i < text.length(); i++) {
            made++;
            x.letter(text.charAt(i));
        }
        made++;
        return x.court();
    }

    private long call(String[] words) {
        made++;
        Class<?>[] types = new Class<?>[words.length - 1];
        Object[] values = new Object[words.length - 1];
        for (int i = 0; i < types.length; i++) {
            types[i] = int.class;
            values[i] = Integer.parseInt(words[i + 1]);
        }
        try {
            Method method = JuryHearsAnswers.class.getMethod(words[0], types);
            return ((Number) method.invoke(x, values)).longValue();
        } catch (ReflectiveOperationException e) {
            throw new IllegalStateException(String.join(" ", words), e);
        }
    }

    /** All that can be asked of it without changing anything, but REFUSALS. */
    String state() {
        StringBuilder text = new StringBuilder();
        for (int what = 0; what <= 7; what++) {
            add(text, "count " + what);
        }
        String[] names = {"question", "witness", "heard"};
        int[] counts = {0, 1, 3};
        for (int i = 0; i < names.length; i++) {
            long many = make("count " + counts[i]);
            for (int j = 0; j < many; j++) {
                for (int what = 0; what < PARTS[i]; what++) {
                    add(text, names[i] + " " + j + " " + what);
                }
            }
        }
        return text.toString();
    }

    /** What only changing calls tell: the ROW, the letters, THE IMAGE; they are gone then. */
    String rest() {
        StringBuilder text = new StringBuilder();
        add(text, "judge");
        add(text, "court");
        add(text, "on");
        return text.append(state()).toString();
    }

    private void add(StringBuilder text, String words) {
        text.append(words).append(" = ").append(make(words)).append("; ");
    }

    /** How many REFUSALS -1 .. -6 there were, -1 first. */
    long[] refusals() {
        long[] many = new long[6];
        for (int i = 0; i < many.length; i++) {
            many[i] = make("count " + (11 + i));
        }
        return many;
    }
}
