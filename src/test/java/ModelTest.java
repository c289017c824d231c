import java.lang.reflect.Method;
import java.util.ArrayList;
import java.util.Comparator;
import java.util.List;
import java.util.Random;

/** Long runs of drawn calls: the class and the model must answer alike. Seeds are fixed. */
public final class ModelTest {
    private static final int RUNS = 300;
    private static final int CALLS = 512;
    private static final int[] EDGES = {
        Integer.MIN_VALUE, Integer.MAX_VALUE, -1000, -2, -1, 0, 1, 63, 64, 255, 256, 1000
    };

    private final Check check = new Check();
    private final List<Method> face = new ArrayList<>();
    private Random random;
    private JuryHearsAnswers program;
    private Model model;
    private int calls;

    public static void main(String[] args) throws Exception {
        ModelTest test = new ModelTest();
        for (int run = 0; run < RUNS; run++) {
            test.run(run);
        }
        test.check.close();
    }

    private ModelTest() {
        for (Method method : JuryHearsAnswers.class.getDeclaredMethods()) {
            if (java.lang.reflect.Modifier.isPublic(method.getModifiers())) {
                face.add(method);
            }
        }
        // reflection tells them in no order of its own, and a seed must tell the same run always
        face.sort(Comparator.comparing(Method::getName));
    }

    private void run(int seed) throws Exception {
        random = new Random(seed);
        program = new JuryHearsAnswers();
        model = new Model();
        calls = 0;
        check.about("run " + seed);
        if (random.nextInt(10) > 0) {
            tell(aCourt());
        }
        while (calls < CALLS) {
            int lot = random.nextInt(60);
            if (lot == 0) {
                tell(random.nextInt(3) == 0 ? spoilt(statements()) : statements());
            } else if (lot < 16) {
                call("asks", below(model.count(1)), below(model.count(0)));
            } else if (lot == 16) {
                aRow();
            } else {
                anyCall();
            }
        }
    }

    private int below(int bound) {
        return bound > 0 ? random.nextInt(bound) : 0;
    }

    // ---- texts

    private void tell(String text) throws Exception {
        for (int i = 0; i < text.length(); i++) {
            call("letter", text.charAt(i));
        }
        call("court");
    }

    private String aCourt() {
        StringBuilder text = new StringBuilder();
        int questions = 1 + random.nextInt(8);
        int witnesses = 1 + random.nextInt(5);
        for (int i = 0; i < questions; i++) {
            text.append(aQuestion());
        }
        for (int i = 0; i < witnesses; i++) {
            text.append(aWitness());
        }
        return text.toString();
    }

    private String aQuestion() {
        // few facts make questions that tell of one another
        int facts = 1 + random.nextInt(6);
        return "q" + random.nextInt(5) + random.nextInt(facts) + random.nextInt(facts) + ";";
    }

    private String aWitness() {
        int bits = random.nextInt(3) == 0 ? random.nextInt(64) : 63;
        int figure = random.nextInt(2) == 0 ? random.nextInt(3) : random.nextInt(10);
        return "w" + "wlbfrc".charAt(random.nextInt(6)) + figure
                + bits / 10 + bits % 10 + ";";
    }

    private String statements() {
        StringBuilder text = new StringBuilder();
        int many = 1 + random.nextInt(6);
        for (int i = 0; i < many; i++) {
            int beyond = random.nextInt(12) == 0 ? 1 : 0;
            int witness = below(model.count(1) + beyond);
            int question = below(model.count(0) + beyond);
            switch (random.nextInt(10)) {
                case 0: text.append(aQuestion()); break;
                case 1: text.append(aWitness()); break;
                case 2: text.append("n;"); break;
                case 3: text.append("k").append(witness).append(random.nextInt(6)).append(";");
                    break;
                case 4:
                case 5: text.append("f").append(random.nextInt(6 + beyond)).append(";"); break;
                default: text.append("a").append(witness).append(question).append(";"); break;
            }
        }
        return text.toString();
    }

    private String spoilt(String text) {
        StringBuilder other = new StringBuilder(text);
        int place = random.nextInt(text.length());
        String signs = "fqwkan;0123456789lbrcx \u0000\u00ff";
        switch (random.nextInt(4)) {
            case 0: other.setLength(place); break;
            case 1: other.deleteCharAt(place); break;
            case 2: other.insert(place, signs.charAt(random.nextInt(signs.length()))); break;
            default: other.setCharAt(place, signs.charAt(random.nextInt(signs.length()))); break;
        }
        return other.toString();
    }

    // ---- calls

    private void aRow() throws Exception {
        call("clear");
        int witness = below(model.count(1));
        int many = random.nextInt(1 + model.count(0));
        boolean isOfHeard = random.nextBoolean();
        for (int i = 0; i < many; i++) {
            int due = isOfHeard ? model.heard(i, 2) : model.answer(witness, i, -1);
            if (isOfHeard) {
                program.heard(i, 2);
            } else {
                program.answer(witness, i, -1);
            }
            boolean isOther = due < 0 || random.nextInt(12) == 0;
            call("row", isOther ? random.nextInt(4) : due);
        }
        call("whatIs", witness, random.nextInt(2));
        call("whatIs", witness, random.nextInt(2));
        if (isOfHeard) {
            call("judge");
        }
    }

    private void anyCall() throws Exception {
        Method method = face.get(random.nextInt(face.size()));
        String name = method.getName();
        if (name.equals("letter") || name.equals("court") && random.nextInt(4) > 0
                || name.equals("empties") && random.nextInt(4) > 0) {
            return;
        }
        int[] told = new int[method.getParameterCount()];
        for (int i = 0; i < told.length; i++) {
            told[i] = random.nextInt(60) == 0 ? EDGES[random.nextInt(EDGES.length)] : usual(name, i);
        }
        call(name, told);
    }

    /** A number that this argument is mostly called with. */
    private int usual(String name, int place) {
        String[] words = KINDS_OF_ARGUMENTS[indexOf(name)].split(" ");
        switch (words[place + 1]) {
            case "what2": return random.nextInt(2);
            case "what": return random.nextInt(4);
            case "count": return random.nextInt(18);
            case "fact": return random.nextInt(6);
            case "question": return below(model.count(0));
            case "witness": return below(model.count(1));
            case "place": return below(model.count(3));
            case "bits": return random.nextInt(64);
            case "cases": return random.nextInt(65) - 1;
            case "kind": return random.nextInt(6);
            case "figure": return random.nextInt(10);
            case "answer": return random.nextInt(3);
            case "n4": return random.nextInt(random.nextInt(8) == 0 ? 5 : 4);
            case "n20": return 1 + random.nextInt(random.nextInt(8) == 0 ? 20 : 3);
            case "seed": return random.nextInt();
            default: return random.nextInt(100);
        }
    }

    private static int indexOf(String name) {
        for (int i = 0; i < KINDS_OF_ARGUMENTS.length; i++) {
            if (KINDS_OF_ARGUMENTS[i].startsWith(name + " ")) {
                return i;
            }
        }
        throw new IllegalStateException("no arguments are told of " + name);
    }

    private static final String[] KINDS_OF_ARGUMENTS = {
        "fact fact", "question question what", "witness witness what", "asks witness question",
        "heard place what", "sets bits", "knows witness bits", "turn witness kind figure",
        "answer witness question cases", "fits what2", "jury what2", "sure what2", "next what2",
        "settle witness fact what2", "words witness answer", "trueOf witness", "betrays place",
        "verdict fact what2", "same what2", "implies question question",
        "two witness question question", "drawn witness n4 fact what2", "mean what2",
        "whatIs witness what2", "row number", "lots n20 seed what2", "count count"
    };

    private void call(String name, int... told) throws Exception {
        calls++;
        Class<?>[] types = new Class<?>[told.length];
        Object[] values = new Object[told.length];
        StringBuilder words = new StringBuilder(name);
        for (int i = 0; i < told.length; i++) {
            types[i] = int.class;
            values[i] = told[i];
            words.append(' ').append(told[i]);
        }
        Object want = Model.class.getMethod(name, types).invoke(model, values);
        Object got = JuryHearsAnswers.class.getMethod(name, types).invoke(program, values);
        check.due("call " + calls + " " + words, ((Number) got).longValue(),
                ((Number) want).longValue());
    }
}
