import java.math.BigInteger;
import java.util.ArrayList;
import java.util.List;
import java.util.function.IntPredicate;

/**
 * A second reading of the document, slow and plain: it asks each witness by each case, one by one,
 * and keeps no sets of cases. Its public methods are those of the class.
 */
public final class Model {
    private record Question(int form, int one, int other) {
        boolean so(int cases) {
            boolean a = (cases & (1 << one)) != 0;
            boolean b = (cases & (1 << other)) != 0;
            return form == 0 ? a : form == 1 ? !a : form == 2 ? a && b : form == 3 ? a || b : a == b;
        }

        boolean known(int bits) {
            boolean a = (bits & (1 << one)) != 0;
            boolean b = (bits & (1 << other)) != 0;
            return form < 2 ? a : a && b;
        }
    }

    private record Witness(int kind, int figure, int knows) { }

    private record Heard(int witness, int question, int answer, int asked) { }

    /** What the image keeps; never changed, but replaced. */
    private record Court(int cases, int asked, List<Question> questions, List<Witness> witnesses,
            List<Heard> heard) {
        Court withCases(int other) {
            return new Court(other, asked, questions, witnesses, heard);
        }

        Court withQuestion(Question more) {
            return new Court(cases, asked, plus(questions, more), witnesses, heard);
        }

        Court withWitness(Witness more) {
            return new Court(cases, asked, questions, plus(witnesses, more), heard);
        }

        Court withWitnessAs(int place, Witness other) {
            List<Witness> changed = new ArrayList<>(witnesses);
            changed.set(place, other);
            return new Court(cases, asked, questions, changed, heard);
        }

        Court withHeard(List<Heard> other) {
            return new Court(cases, asked, questions, witnesses, other);
        }

        int next(int question) {
            return question + 1 == questions.size() ? 0 : question + 1;
        }

        int says(Witness who, int kind, int question, int time, int by) {
            switch (kind) {
                case 0: {
                    Question q = questions.get(question);
                    return !q.known(who.knows) ? 2 : q.so(by) ? 1 : 0;
                }
                case 1: {
                    int plain = says(who, 0, question, time, by);
                    return plain == 2 ? 2 : 1 - plain;
                }
                case 2: {
                    int plain = says(who, 0, question, time, by);
                    return plain == 0 ? 2 : plain;
                }
                case 3:
                    return time % (who.figure + 1) == 0 ? 2 : says(who, 0, question, time, by);
                case 4:
                    return says(who, 0, next(question), time, by);
                default: {
                    int brief = says(who, 2, question, time, by);
                    return brief == 2 ? 1 : brief;
                }
            }
        }

        int says(int witness, int question, int time, int by) {
            Witness who = witnesses.get(witness);
            return says(who, who.kind, question, time, by);
        }

        Court asking(int witness, int question) {
            int time = asked + 1;
            Heard more = new Heard(witness, question, says(witness, question, time, cases), time);
            List<Heard> all = plus(heard, more);
            if (all.size() > 12) {
                all = all.subList(1, all.size());
            }
            return new Court(cases, time, questions, witnesses, List.copyOf(all));
        }

        boolean fits(Heard h, int by) {
            return says(h.witness, h.question, h.asked, by) == h.answer;
        }

        boolean fits(int by) {
            return heard.stream().allMatch(h -> fits(h, by));
        }

        boolean juryFits(int by) {
            for (Heard h : heard) {
                boolean some = false;
                for (int q = 0; q < questions.size(); q++) {
                    some |= says(h.witness, q, h.asked, by) == h.answer;
                }
                if (!some) {
                    return false;
                }
            }
            return true;
        }

        List<Integer> fitting() {
            return which(this::fits);
        }

        List<Integer> juryFitting() {
            return which(this::juryFits);
        }
    }

    private static final long REFUSAL = 4000000000000000000L;

    private Court court = new Court(0, 0, List.of(), List.of(), List.of());
    private Court image;
    private final List<Integer> row = new ArrayList<>();
    private final StringBuilder letters = new StringBuilder();
    private final int[] refusals = new int[7];

    // ---- small things

    private static <T> List<T> plus(List<T> list, T more) {
        List<T> longer = new ArrayList<>(list);
        longer.add(more);
        return longer;
    }

    private static List<Integer> which(IntPredicate wanted) {
        List<Integer> found = new ArrayList<>();
        for (int cases = 0; cases < 64; cases++) {
            if (wanted.test(cases)) {
                found.add(cases);
            }
        }
        return found;
    }

    private static List<Integer> only(List<Integer> cases, IntPredicate wanted) {
        List<Integer> found = new ArrayList<>();
        for (int c : cases) {
            if (wanted.test(c)) {
                found.add(c);
            }
        }
        return found;
    }

    private int no(int code) {
        refusals[-code]++;
        return code;
    }

    private long longNo(int code) {
        return REFUSAL - no(code);
    }

    private static long fraction(long above, long below, int part) {
        if (above == 0) {
            return part == 0 ? 0 : 1;
        }
        long common = BigInteger.valueOf(above).gcd(BigInteger.valueOf(below)).longValue();
        return (part == 0 ? above : below) / common;
    }

    private boolean noWitness(int witness) {
        return witness < 0 || witness >= court.witnesses.size();
    }

    private boolean noQuestion(int question) {
        return question < 0 || question >= court.questions.size();
    }

    private static boolean noFact(int fact) {
        return fact < 0 || fact > 5;
    }

    private static boolean so(int cases, int fact) {
        return (cases >> fact) % 2 == 1;
    }

    private static boolean sure(List<Integer> cases, int fact) {
        return !cases.isEmpty() && cases.stream().map(c -> so(c, fact)).distinct().count() == 1;
    }

    private int now(int witness, int question) {
        return court.says(witness, question, court.asked + 1, court.cases);
    }

    private List<Integer> behind(List<Integer> cases, int witness, int question, int time) {
        int answer = court.says(witness, question, time, court.cases);
        return only(cases, c -> court.says(witness, question, time, c) == answer);
    }

    // ---- the face

    public int letter(int c) {
        if (c < 0) {
            return no(-4);
        }
        if (c > 255 || letters.length() == 96) {
            return no(-6);
        }
        letters.append((char) c);
        return letters.length();
    }

    private static final String STATEMENT =
            "(f[0-9];|q[0-9]{3};|w[wlbfrc][0-9]{3};|k[0-9]{2};|a[0-9]{2};|n;)";

    /** Whether a text can be the beginning of a court. */
    private static boolean canGoOn(String text) {
        String rest = text.replaceAll("^" + STATEMENT + "*", "");
        return rest.matches("f?|f[0-9]|q[0-9]{0,3}|w|w[wlbfrc][0-9]{0,3}|[ka][0-9]{0,2}|n");
    }

    public int court() {
        String text = letters.toString();
        letters.setLength(0);
        if (!text.matches("(?s)" + STATEMENT + "+")) {
            int place = 0;
            while (place < text.length() && canGoOn(text.substring(0, place + 1))) {
                place++;
            }
            return -1000 - place;
        }
        Court before = court;
        int place = 0;
        int many = 0;
        for (String statement : text.split("(?<=;)")) {
            if (!play(statement)) {
                court = before;
                return -2000 - place;
            }
            place += statement.length();
            many++;
        }
        return many;
    }

    private static int digit(String text, int place) {
        return place < text.length() ? Character.digit(text.charAt(place), 10) : -1;
    }

    private boolean play(String s) {
        int a = digit(s, 1);
        int b = digit(s, 2);
        int c = digit(s, 3);
        switch (s.charAt(0)) {
            case 'f':
                if (noFact(a)) {
                    return false;
                }
                court = court.withCases(court.cases ^ (1 << a));
                return true;
            case 'q':
                if (a > 4 || noFact(b) || noFact(c) || court.questions.size() == 8) {
                    return false;
                }
                court = court.withQuestion(new Question(a, b, c));
                return true;
            case 'w': {
                int bits = Integer.parseInt(s.substring(3, 5));
                if (bits > 63 || court.witnesses.size() == 5) {
                    return false;
                }
                court = court.withWitness(new Witness("wlbfrc".indexOf(s.charAt(1)), b, bits));
                return true;
            }
            case 'k': {
                if (noWitness(a) || noFact(b)) {
                    return false;
                }
                Witness w = court.witnesses.get(a);
                court = court.withWitnessAs(a, new Witness(w.kind, w.figure, w.knows ^ (1 << b)));
                return true;
            }
            case 'a':
                if (noWitness(a) || noQuestion(b) || court.asked == 999) {
                    return false;
                }
                court = court.asking(a, b);
                return true;
            default:
                court = court.withHeard(List.of());
                return true;
        }
    }

    public int fact(int fact) {
        return noFact(fact) ? no(-1) : so(court.cases, fact) ? 1 : 0;
    }

    public int question(int question, int what) {
        if (noQuestion(question)) {
            return no(-1);
        }
        Question q = court.questions.get(question);
        return what == 0 ? q.form : what == 1 ? q.one : what == 2 ? q.other
                : what == 3 ? (q.so(court.cases) ? 1 : 0) : no(-2);
    }

    public int witness(int witness, int what) {
        if (noWitness(witness)) {
            return no(-1);
        }
        Witness w = court.witnesses.get(witness);
        return what == 0 ? w.kind : what == 1 ? w.figure : what == 2 ? w.knows : no(-2);
    }

    public int asks(int witness, int question) {
        if (noWitness(witness) || noQuestion(question)) {
            return no(-1);
        }
        if (court.asked == 999) {
            return no(-6);
        }
        court = court.asking(witness, question);
        return court.heard.get(court.heard.size() - 1).answer;
    }

    public int heard(int place, int what) {
        if (place < 0 || place >= court.heard.size()) {
            return no(-1);
        }
        Heard h = court.heard.get(place);
        return what == 0 ? h.witness : what == 1 ? h.question : what == 2 ? h.answer
                : what == 3 ? h.asked : no(-2);
    }

    public int sets(int cases) {
        if (cases < 0 || cases > 63) {
            return no(cases < 0 ? -4 : -6);
        }
        int before = court.cases;
        court = court.withCases(cases);
        return before;
    }

    public int knows(int witness, int bits) {
        if (noWitness(witness)) {
            return no(-1);
        }
        if (bits < 0 || bits > 63) {
            return no(bits < 0 ? -4 : -6);
        }
        Witness w = court.witnesses.get(witness);
        court = court.withWitnessAs(witness, new Witness(w.kind, w.figure, bits));
        return w.knows;
    }

    public int turn(int witness, int kind, int figure) {
        if (noWitness(witness)) {
            return no(-1);
        }
        if (kind < 0 || kind > 5) {
            return no(-2);
        }
        if (figure < 0 || figure > 9) {
            return no(figure < 0 ? -4 : -6);
        }
        Witness w = court.witnesses.get(witness);
        court = court.withWitnessAs(witness, new Witness(kind, figure, w.knows));
        return 10 * w.kind + w.figure;
    }

    public int empties() {
        int before = court.heard.size();
        court = court.withHeard(List.of());
        return before;
    }

    public int answer(int witness, int question, int cases) {
        if (noWitness(witness) || noQuestion(question)) {
            return no(-1);
        }
        if (cases < -1 || cases > 63) {
            return no(cases < -1 ? -4 : -6);
        }
        int by = cases == -1 ? court.cases : cases;
        return court.says(witness, question, court.asked + 1, by);
    }

    private int sizeOrLeast(List<Integer> cases, int what) {
        if (what != 0 && what != 1) {
            return no(-2);
        }
        return what == 0 ? cases.size() : cases.isEmpty() ? -9 : cases.get(0);
    }

    public int fits(int what) {
        return sizeOrLeast(court.fitting(), what);
    }

    public int jury(int what) {
        return sizeOrLeast(court.juryFitting(), what);
    }

    public int sure(int what) {
        if (what != 0 && what != 1) {
            return no(-2);
        }
        List<Integer> left = what == 0 ? court.fitting() : court.juryFitting();
        int bits = 0;
        for (int fact = 0; fact < 6; fact++) {
            bits += sure(left, fact) ? 1 << fact : 0;
        }
        return bits;
    }

    public int next(int what) {
        if (what != 0 && what != 1) {
            return no(-2);
        }
        List<Integer> left = court.fitting();
        int best = -9;
        int fewest = 65;
        for (int w = 0; w < court.witnesses.size(); w++) {
            for (int q = 0; q < court.questions.size(); q++) {
                int[] many = new int[3];
                for (int c : left) {
                    many[court.says(w, q, court.asked + 1, c)]++;
                }
                int worst = Math.max(many[0], Math.max(many[1], many[2]));
                if (worst < fewest) {
                    fewest = worst;
                    best = 10 * w + q;
                }
            }
        }
        return best == -9 ? -9 : what == 0 ? best : fewest;
    }

    /** Whether the fact is sure behind these questions, told by their digits, the first first. */
    private boolean sureBehind(int witness, int fact, int[] asked) {
        List<Integer> left = court.fitting();
        int time = court.asked;
        for (int question : asked) {
            time++;
            left = behind(left, witness, question, time);
        }
        return sure(left, fact);
    }

    /** The number-th row of so many questions, as they stand one behind the other. */
    private int[] rowOf(int number, int length) {
        int[] asked = new int[length];
        int rest = number;
        for (int i = length - 1; i >= 0; i--) {
            asked[i] = rest % court.questions.size();
            rest /= court.questions.size();
        }
        return asked;
    }

    private int rowsOf(int length) {
        int all = 1;
        for (int i = 0; i < length; i++) {
            all *= court.questions.size();
        }
        return all;
    }

    public int settle(int witness, int fact, int what) {
        if (noWitness(witness) || noFact(fact)) {
            return no(-1);
        }
        if (what != 0 && what != 1) {
            return no(-2);
        }
        for (int length = 0; length <= 3; length++) {
            for (int number = 0; number < rowsOf(length); number++) {
                int[] asked = rowOf(number, length);
                if (sureBehind(witness, fact, asked)) {
                    return what == 0 ? length : length == 0 ? -9 : asked[0];
                }
            }
        }
        return -9;
    }

    public int words(int witness, int answer) {
        if (noWitness(witness)) {
            return no(-1);
        }
        if (answer < 0 || answer > 2) {
            return no(-2);
        }
        int many = 0;
        for (int q = 0; q < court.questions.size(); q++) {
            many += now(witness, q) == answer ? 1 : 0;
        }
        return many;
    }

    private boolean isUntrue(Heard h, int by) {
        boolean so = court.questions.get(h.question).so(by);
        return h.answer == 1 && !so || h.answer == 0 && so;
    }

    public int liars() {
        List<Integer> left = court.fitting();
        int bits = 0;
        for (int w = 0; w < court.witnesses.size(); w++) {
            int who = w;
            boolean lies = !left.isEmpty();
            for (int c : left) {
                lies &= court.heard.stream().anyMatch(h -> h.witness == who && isUntrue(h, c));
            }
            bits += lies ? 1 << w : 0;
        }
        return bits;
    }

    public int clash() {
        for (int i = 0; i < court.heard.size(); i++) {
            for (int j = i + 1; j < court.heard.size(); j++) {
                Heard one = court.heard.get(i);
                Heard other = court.heard.get(j);
                if (which(c -> court.fits(one, c) && court.fits(other, c)).isEmpty()) {
                    return 100 * i + j;
                }
            }
        }
        return -9;
    }

    public int trueOf(int witness) {
        if (noWitness(witness)) {
            return no(-1);
        }
        return (int) court.heard.stream().filter(h -> h.witness == witness && h.answer != 2
                && !isUntrue(h, court.cases)).count();
    }

    public int talker() {
        int[] many = new int[5];
        for (Heard h : court.heard) {
            many[h.witness] += h.answer == 2 ? 0 : 1;
        }
        int best = 0;
        for (int w = 1; w < 5; w++) {
            best = many[w] > many[best] ? w : best;
        }
        return many[best] == 0 ? -9 : best;
    }

    public int betrays(int place) {
        if (place < 0 || place >= court.heard.size()) {
            return no(-1);
        }
        Heard h = court.heard.get(place);
        int many = 0;
        for (int q = 0; q < court.questions.size(); q++) {
            many += court.says(h.witness, q, h.asked, court.cases) == h.answer ? 1 : 0;
        }
        return many;
    }

    public long verdict(int fact, int part) {
        if (noFact(fact)) {
            return longNo(-1);
        }
        if (part != 0 && part != 1) {
            return longNo(-2);
        }
        List<Integer> left = court.juryFitting();
        return fraction(only(left, c -> so(c, fact)).size(), left.size(), part);
    }

    public int hidden() {
        int bits = 0;
        for (int q = 0; q < court.questions.size(); q++) {
            boolean isHidden = true;
            for (int w = 0; w < court.witnesses.size(); w++) {
                isHidden &= now(w, q) == 2;
            }
            bits += isHidden ? 1 << q : 0;
        }
        return bits;
    }

    public int same(int what) {
        if (what != 0 && what != 1) {
            return no(-2);
        }
        List<Integer> pairs = new ArrayList<>();
        for (int i = 0; i < court.questions.size(); i++) {
            for (int j = i + 1; j < court.questions.size(); j++) {
                Question one = court.questions.get(i);
                Question other = court.questions.get(j);
                if (which(c -> one.so(c) == other.so(c)).size() == 64) {
                    pairs.add(10 * i + j);
                }
            }
        }
        return what == 0 ? pairs.size() : pairs.isEmpty() ? -9 : pairs.get(0);
    }

    public int implies(int one, int other) {
        if (noQuestion(one) || noQuestion(other)) {
            return no(-1);
        }
        Question a = court.questions.get(one);
        Question b = court.questions.get(other);
        return only(court.fitting(), c -> a.so(c) && !b.so(c)).isEmpty() ? 1 : 0;
    }

    public int two(int witness, int one, int other) {
        if (noWitness(witness) || noQuestion(one) || noQuestion(other)) {
            return no(-1);
        }
        int[] ones = {one, court.next(one)};
        int[] others = {other, court.next(other)};
        int[][] left = new int[2][2];
        for (int i = 0; i < 2; i++) {
            for (int j = 0; j < 2; j++) {
                List<Integer> first = behind(court.fitting(), witness, ones[i], court.asked + 1);
                left[i][j] = behind(first, witness, others[j], court.asked + 2).size();
            }
        }
        for (int i = 0; i < 2; i++) {
            for (int j = 0; j < 2; j++) {
                if (left[i][j] >= left[1 - i][j] && left[i][j] <= left[i][1 - j]) {
                    return 10 * i + j;
                }
            }
        }
        return -9;
    }

    public long drawn(int witness, int n, int fact, int part) {
        if (noWitness(witness) || noFact(fact)) {
            return longNo(-1);
        }
        if (n < 0 || n > 4) {
            return longNo(n < 0 ? -4 : -6);
        }
        if (part != 0 && part != 1) {
            return longNo(-2);
        }
        if (court.questions.isEmpty()) {
            return longNo(-3);
        }
        int sure = 0;
        for (int number = 0; number < rowsOf(n); number++) {
            sure += sureBehind(witness, fact, rowOf(number, n)) ? 1 : 0;
        }
        return fraction(sure, rowsOf(n), part);
    }

    public long mean(int part) {
        if (part != 0 && part != 1) {
            return longNo(-2);
        }
        List<Integer> left = court.fitting();
        return fraction(left.stream().mapToInt(Integer::bitCount).sum(), left.size(), part);
    }

    private boolean isByRow(Witness who) {
        for (int q = 0; q < row.size(); q++) {
            if (court.says(who, who.kind, q, court.asked + 1, court.cases) != row.get(q)) {
                return false;
            }
        }
        return true;
    }

    public int whatIs(int witness, int what) {
        if (noWitness(witness)) {
            return no(-1);
        }
        if (what != 0 && what != 1) {
            return no(-2);
        }
        if (row.size() > court.questions.size()) {
            return no(-3);
        }
        Witness w = court.witnesses.get(witness);
        int bits = 0;
        for (int kind = 0; kind < 6; kind++) {
            bits += isByRow(new Witness(kind, w.figure, w.knows)) ? 1 << kind : 0;
        }
        return what == 0 ? bits : which(c -> isByRow(new Witness(w.kind, w.figure, c))).size();
    }

    public int row(int v) {
        if (v < 0) {
            return no(-4);
        }
        if (v > 99 || row.size() == 12) {
            return no(-6);
        }
        row.add(v);
        return row.size();
    }

    public int judge() {
        int wrong = -9;
        for (int i = row.size() - 1; i >= 0; i--) {
            boolean is = i < court.heard.size() && court.heard.get(i).answer == row.get(i);
            wrong = is ? wrong : i;
        }
        row.clear();
        return wrong;
    }

    public int clear() {
        int before = row.size();
        row.clear();
        return before;
    }

    public int lots(int n, int z, int what) {
        if (n < 1 || n > 20) {
            return no(n < 1 ? -4 : -6);
        }
        if (what != 0 && what != 1) {
            return no(-2);
        }
        if (court.witnesses.isEmpty() || court.questions.isEmpty()) {
            return no(-3);
        }
        int[] sum = new int[2];
        int seed = z;
        for (int i = 0; i < n; i++) {
            Court session = court;
            for (int k = 0; k < 6; k++) {
                int[] drawn = new int[2];
                for (int d = 0; d < 2; d++) {
                    seed = (int) (seed * 1664525L + 1013904223L);
                    int bound = d == 0 ? court.witnesses.size() : court.questions.size();
                    drawn[d] = (int) ((seed & 0x7fffffffL) / 256 % bound);
                }
                session = session.asking(drawn[0], drawn[1]);
                sum[0] += session.heard.get(session.heard.size() - 1).answer == 1 ? 1 : 0;
            }
            sum[1] += session.fitting().size();
        }
        return sum[what];
    }

    public int image() {
        image = court;
        return court.asked;
    }

    public int on() {
        if (image == null) {
            return no(-3);
        }
        court = image;
        return court.asked;
    }

    public int count(int what) {
        switch (what) {
            case 0: return court.questions.size();
            case 1: return court.witnesses.size();
            case 2: return court.cases;
            case 3: return court.heard.size();
            case 4: return court.asked;
            case 5: {
                int bits = 0;
                for (int q = 0; q < court.questions.size(); q++) {
                    bits += court.questions.get(q).so(court.cases) ? 1 << q : 0;
                }
                return bits;
            }
            case 6: return row.size();
            case 7: return letters.length();
            default: return what >= 11 && what <= 16 ? refusals[what - 10] : -9;
        }
    }
}
