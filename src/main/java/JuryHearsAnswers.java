/**
 * A court in which questions are whispered and answers said aloud.
 *
 * <p>There are only 64 cases, so a set of cases is a long, a bit a case: what fits, what somebody
 * would say and what is so are all such sets, and most answers are a few set operations.
 */
public final class JuryHearsAnswers {

    private static final int FACTS = 6;
    private static final int FORMS = 5;
    private static final int KINDS = 6;
    private static final int ANSWERS = 3;
    private static final int MOST_QUESTIONS = 8;
    private static final int MOST_WITNESSES = 5;
    private static final int MOST_HEARD = 12;
    private static final int MOST_ASKED = 999;
    private static final int MOST_FIGURE = 9;
    private static final int MOST_BITS = 63;
    private static final int MOST_LETTERS = 96;
    private static final int MOST_LETTER = 255;
    private static final int MOST_IN_ROW = 12;
    private static final int MOST_ROW_NUMBER = 99;
    private static final int MOST_SETTLING = 3;
    private static final int MOST_DRAWN = 4;
    private static final int MOST_SESSIONS = 20;
    private static final int SESSION_QUESTIONS = 6;

    private static final int NO = 0;
    private static final int YES = 1;
    private static final int NOTHING = 2;

    private static final int FORM_SO = 0;
    private static final int FORM_NOT = 1;
    private static final int FORM_BOTH = 2;
    private static final int FORM_EITHER = 3;

    private static final int LIAR = 1;
    private static final int BRIEF = 2;
    private static final int FORGETFUL = 3;
    private static final int RATHER = 4;
    private static final int CLERK = 5;
    private static final String KIND_LETTERS = "wlbfrc";

    private static final int NOBODY = -1;
    private static final int OTHER = -2;
    private static final int STATE = -3;
    private static final int BELOW = -4;
    private static final int ROOM = -6;
    private static final int LOWEST_REFUSAL = -6;
    private static final int NONE = -9;
    private static final long LONG_REFUSAL = 4000000000000000000L;

    private static final int BROKEN_TEXT = -1000;
    private static final int WRONG_STATEMENT = -2000;

    private static final long NO_CASE = 0L;
    private static final long EVERY_CASE = -1L;

    /** For each fact the cases in which it is so. */
    private static final long[] FACT_CASES = {
        0xAAAAAAAAAAAAAAAAL, 0xCCCCCCCCCCCCCCCCL, 0xF0F0F0F0F0F0F0F0L,
        0xFF00FF00FF00FF00L, 0xFFFF0000FFFF0000L, 0xFFFFFFFF00000000L
    };

    private final Court now;
    private final Court taken;
    /** Where a text or a session is tried out before, or instead of, being so. */
    private final Court trial;
    private final Script script;
    private final int[] rowNumbers;
    private final int[] refusals;
    /** For each of four askings in turn and each question the cases that the answer leaves. */
    private final long[] kept;
    private int rowLength;
    private boolean isTaken;

    public JuryHearsAnswers() {
        now = new Court();
        taken = new Court();
        trial = new Court();
        script = new Script();
        rowNumbers = new int[MOST_IN_ROW];
        refusals = new int[1 - LOWEST_REFUSAL];
        kept = new long[MOST_DRAWN * MOST_QUESTIONS];
    }

    // ---- the court and its letters

    public int letter(int c) {
        if (c < 0) {
            return refused(BELOW);
        }
        if (c > MOST_LETTER || script.length >= MOST_LETTERS) {
            return refused(ROOM);
        }
        script.add((char) c);
        return script.length;
    }

    public int court() {
        int outcome = playScript();
        script.length = 0;
        return outcome;
    }

    public int fact(int fact) {
        if (!isFact(fact)) {
            return refused(NOBODY);
        }
        return now.caseNow >> fact & 1;
    }

    public int question(int question, int what) {
        if (!now.hasQuestion(question)) {
            return refused(NOBODY);
        }
        switch (what) {
            case 0: return now.form[question];
            case 1: return now.first[question];
            case 2: return now.second[question];
            case 3: return now.isSo(question) ? 1 : 0;
            default: return refused(OTHER);
        }
    }

    public int witness(int witness, int what) {
        if (!now.hasWitness(witness)) {
            return refused(NOBODY);
        }
        switch (what) {
            case 0: return now.kind[witness];
            case 1: return now.figure[witness];
            case 2: return now.known[witness];
            default: return refused(OTHER);
        }
    }

    public int asks(int witness, int question) {
        if (!now.hasWitness(witness) || !now.hasQuestion(question)) {
            return refused(NOBODY);
        }
        if (now.asked >= MOST_ASKED) {
            return refused(ROOM);
        }
        return now.ask(witness, question);
    }

    public int heard(int place, int what) {
        if (!now.hasPlace(place)) {
            return refused(NOBODY);
        }
        switch (what) {
            case 0: return now.heardWitness[place];
            case 1: return now.heardQuestion[place];
            case 2: return now.heardAnswer[place];
            case 3: return now.heardAsked[place];
            default: return refused(OTHER);
        }
    }

    public int sets(int cases) {
        if (cases < 0) {
            return refused(BELOW);
        }
        if (cases > MOST_BITS) {
            return refused(ROOM);
        }
        int before = now.caseNow;
        now.caseNow = cases;
        return before;
    }

    public int knows(int witness, int bits) {
        if (!now.hasWitness(witness)) {
            return refused(NOBODY);
        }
        if (bits < 0) {
            return refused(BELOW);
        }
        if (bits > MOST_BITS) {
            return refused(ROOM);
        }
        int before = now.known[witness];
        now.known[witness] = bits;
        return before;
    }

    public int turn(int witness, int kind, int figure) {
        if (!now.hasWitness(witness)) {
            return refused(NOBODY);
        }
        if (kind < 0 || kind >= KINDS) {
            return refused(OTHER);
        }
        if (figure < 0) {
            return refused(BELOW);
        }
        if (figure > MOST_FIGURE) {
            return refused(ROOM);
        }
        int before = 10 * now.kind[witness] + now.figure[witness];
        now.kind[witness] = kind;
        now.figure[witness] = figure;
        return before;
    }

    public int empties() {
        int before = now.heardLength;
        now.heardLength = 0;
        return before;
    }

    // ---- what was so, by what the judge knows and by what the jury hears

    public int answer(int witness, int question, int cases) {
        if (!now.hasWitness(witness) || !now.hasQuestion(question)) {
            return refused(NOBODY);
        }
        if (cases < -1) {
            return refused(BELOW);
        }
        if (cases > MOST_BITS) {
            return refused(ROOM);
        }
        return now.reply(witness, question, now.asked + 1, cases < 0 ? now.caseNow : cases);
    }

    public int fits(int what) {
        return isPart(what) ? sizeOrLeast(now.fitting(), what) : refused(OTHER);
    }

    public int jury(int what) {
        return isPart(what) ? sizeOrLeast(now.juryFitting(), what) : refused(OTHER);
    }

    public int sure(int what) {
        if (!isPart(what)) {
            return refused(OTHER);
        }
        long left = what == 0 ? now.fitting() : now.juryFitting();
        int facts = 0;
        for (int fact = 0; fact < FACTS; fact++) {
            if (isSure(left, factCases(fact))) {
                facts |= 1 << fact;
            }
        }
        return facts;
    }

    public int next(int what) {
        return isPart(what) ? bestAsking(what) : refused(OTHER);
    }

    public int settle(int witness, int fact, int what) {
        if (!now.hasWitness(witness) || !isFact(fact)) {
            return refused(NOBODY);
        }
        return isPart(what) ? settling(witness, factCases(fact), what) : refused(OTHER);
    }

    public int words(int witness, int answer) {
        if (!now.hasWitness(witness)) {
            return refused(NOBODY);
        }
        if (answer < 0 || answer >= ANSWERS) {
            return refused(OTHER);
        }
        return now.questionsSaid(witness, now.asked + 1, answer);
    }

    // ---- what the answers tell of those who gave them

    public int liars() {
        long left = now.fitting();
        int witnesses = 0;
        for (int witness = 0; left != NO_CASE && witness < now.witnesses; witness++) {
            if ((left & ~now.untruths(witness)) == NO_CASE) {
                witnesses |= 1 << witness;
            }
        }
        return witnesses;
    }

    public int clash() {
        for (int earlier = 0; earlier < now.heardLength; earlier++) {
            for (int later = earlier + 1; later < now.heardLength; later++) {
                if ((now.heardFitting(earlier) & now.heardFitting(later)) == NO_CASE) {
                    return 100 * earlier + later;
                }
            }
        }
        return NONE;
    }

    public int trueOf(int witness) {
        if (!now.hasWitness(witness)) {
            return refused(NOBODY);
        }
        int many = 0;
        for (int place = 0; place < now.heardLength; place++) {
            int due = now.isSo(now.heardQuestion[place]) ? YES : NO;
            if (now.heardWitness[place] == witness && now.heardAnswer[place] == due) {
                many++;
            }
        }
        return many;
    }

    public int talker() {
        int most = 0;
        int talker = NONE;
        for (int witness = 0; witness < now.witnesses; witness++) {
            int many = now.answersOf(witness);
            if (many > most) {
                most = many;
                talker = witness;
            }
        }
        return talker;
    }

    public int betrays(int place) {
        if (!now.hasPlace(place)) {
            return refused(NOBODY);
        }
        return now.questionsSaid(
                now.heardWitness[place], now.heardAsked[place], now.heardAnswer[place]);
    }

    public long verdict(int fact, int part) {
        if (!isFact(fact)) {
            return longRefused(NOBODY);
        }
        if (!isPart(part)) {
            return longRefused(OTHER);
        }
        long left = now.juryFitting();
        return inLeastTerms(Long.bitCount(left & factCases(fact)), Long.bitCount(left), part);
    }

    public int hidden() {
        int questions = 0;
        for (int question = 0; question < now.questions; question++) {
            if (isHidden(question)) {
                questions |= 1 << question;
            }
        }
        return questions;
    }

    public int same(int what) {
        return isPart(what) ? samePairs(what) : refused(OTHER);
    }

    public int implies(int one, int other) {
        if (!now.hasQuestion(one) || !now.hasQuestion(other)) {
            return refused(NOBODY);
        }
        return (now.fitting() & now.truthOf(one) & ~now.truthOf(other)) == NO_CASE ? 1 : 0;
    }

    // ---- askings that are thought of, not done

    public int two(int witness, int one, int other) {
        if (!now.hasWitness(witness) || !now.hasQuestion(one) || !now.hasQuestion(other)) {
            return refused(NOBODY);
        }
        return settledPair(witness, one, other);
    }

    public long drawn(int witness, int n, int fact, int part) {
        if (!now.hasWitness(witness) || !isFact(fact)) {
            return longRefused(NOBODY);
        }
        if (n < 0) {
            return longRefused(BELOW);
        }
        if (n > MOST_DRAWN) {
            return longRefused(ROOM);
        }
        if (!isPart(part)) {
            return longRefused(OTHER);
        }
        if (now.questions == 0) {
            return longRefused(STATE);
        }
        fillKept(witness);
        int all = 1;
        for (int i = 0; i < n; i++) {
            all *= now.questions;
        }
        int sure = waysSure(kept, now.questions, now.fitting(), factCases(fact), 0, n);
        return inLeastTerms(sure, all, part);
    }

    public long mean(int part) {
        if (!isPart(part)) {
            return longRefused(OTHER);
        }
        long left = now.fitting();
        int so = 0;
        for (int fact = 0; fact < FACTS; fact++) {
            so += Long.bitCount(left & factCases(fact));
        }
        return inLeastTerms(so, Long.bitCount(left), part);
    }

    public int whatIs(int witness, int what) {
        if (!now.hasWitness(witness)) {
            return refused(NOBODY);
        }
        if (!isPart(what)) {
            return refused(OTHER);
        }
        if (rowLength > now.questions) {
            return refused(STATE);
        }
        return what == 0 ? kindsByRow(witness) : knownByRow(witness);
    }

    public int row(int v) {
        if (v < 0) {
            return refused(BELOW);
        }
        if (v > MOST_ROW_NUMBER || rowLength >= MOST_IN_ROW) {
            return refused(ROOM);
        }
        rowNumbers[rowLength] = v;
        rowLength++;
        return rowLength;
    }

    public int judge() {
        int wrong = firstWrongInRow();
        rowLength = 0;
        return wrong;
    }

    public int clear() {
        int before = rowLength;
        rowLength = 0;
        return before;
    }

    public int lots(int n, int z, int what) {
        if (n < 1) {
            return refused(BELOW);
        }
        if (n > MOST_SESSIONS) {
            return refused(ROOM);
        }
        if (!isPart(what)) {
            return refused(OTHER);
        }
        if (now.witnesses == 0 || now.questions == 0) {
            return refused(STATE);
        }
        return sessions(n, z, what);
    }

    // ---- the image, and how many there are

    public int image() {
        taken.becomes(now);
        isTaken = true;
        return now.asked;
    }

    public int on() {
        if (!isTaken) {
            return refused(STATE);
        }
        now.becomes(taken);
        return now.asked;
    }

    public int count(int what) {
        if (what >= 11 && what <= 16) {
            return refusals[what - 10];
        }
        switch (what) {
            case 0: return now.questions;
            case 1: return now.witnesses;
            case 2: return now.caseNow;
            case 3: return now.heardLength;
            case 4: return now.asked;
            case 5: return now.questionsSo();
            case 6: return rowLength;
            case 7: return script.length;
            default: return NONE;
        }
    }

    // ---- behind the face

    private int refused(int code) {
        if (code < 0 && code >= LOWEST_REFUSAL) {
            refusals[-code]++;
        }
        return code;
    }

    private long longRefused(int code) {
        return LONG_REFUSAL - refused(code);
    }

    private static boolean isFact(int fact) {
        return fact >= 0 && fact < FACTS;
    }

    /** Whether a "what" or a "part" is one of the two that most calls know. */
    private static boolean isPart(int what) {
        return what == 0 || what == 1;
    }

    private static long factCases(int fact) {
        return isFact(fact) ? FACT_CASES[fact] : NO_CASE;
    }

    private static boolean isIn(long cases, int one) {
        return (cases >>> one & 1L) != 0L;
    }

    private static int sizeOrLeast(long cases, int what) {
        if (what == 0) {
            return Long.bitCount(cases);
        }
        // the bits below the lowest one that is set are as many as its place
        return cases == NO_CASE ? NONE : Long.bitCount((cases & -cases) - 1L);
    }

    private static boolean isSure(long left, long factCases) {
        long so = left & factCases;
        return left != NO_CASE && (so == NO_CASE || so == left);
    }

    private static long inLeastTerms(int above, int below, int part) {
        if (above <= 0 || below <= 0) {
            return part == 0 ? 0L : 1L;
        }
        int common = commonDivisor(above, below);
        return (part == 0 ? above : below) / common;
    }

    /** Of two numbers above 0: at least 1. */
    private static int commonDivisor(int one, int other) {
        int divisor = one;
        int rest = other;
        // Euclid's way ends within some fifty steps for any two ints
        for (int step = 0; step < 100 && rest > 0; step++) {
            int further = divisor % rest;
            divisor = rest;
            rest = further;
        }
        return divisor > 0 ? divisor : 1;
    }

    /** The text is played on the trial court, so that with a fault nothing of it has come. */
    private int playScript() {
        int broken = script.brokenPlace();
        if (broken >= 0) {
            return BROKEN_TEXT - broken;
        }
        trial.becomes(now);
        int place = 0;
        int statements = 0;
        while (place < script.length && statements < MOST_LETTERS) {
            if (!script.play(place, trial)) {
                return WRONG_STATEMENT - place;
            }
            place += script.statementLength(place);
            statements++;
        }
        now.becomes(trial);
        return statements;
    }

    private int bestAsking(int what) {
        long left = now.fitting();
        int best = NONE;
        int fewest = NONE;
        for (int witness = 0; witness < now.witnesses; witness++) {
            for (int question = 0; question < now.questions; question++) {
                int worst = worstLeft(left, witness, question);
                if (best == NONE || worst < fewest) {
                    best = 10 * witness + question;
                    fewest = worst;
                }
            }
        }
        return what == 0 ? best : fewest;
    }

    private int worstLeft(long left, int witness, int question) {
        int worst = 0;
        for (int answer = 0; answer < ANSWERS; answer++) {
            long saying = now.saying(witness, question, now.asked + 1, answer);
            worst = Math.max(worst, Long.bitCount(left & saying));
        }
        return worst;
    }

    private void fillKept(int witness) {
        for (int step = 0; step < MOST_DRAWN; step++) {
            for (int question = 0; question < now.questions; question++) {
                kept[step * MOST_QUESTIONS + question] =
                        now.keeping(witness, question, now.asked + 1 + step);
            }
        }
    }

    private int settling(int witness, long factCases, int what) {
        long left = now.fitting();
        if (isSure(left, factCases)) {
            return what == 0 ? 0 : NONE;
        }
        fillKept(witness);
        for (int length = 1; length <= MOST_SETTLING; length++) {
            for (int question = 0; question < now.questions; question++) {
                long behind = left & kept[question];
                if (waysSure(kept, now.questions, behind, factCases, 1, length) > 0) {
                    return what == 0 ? length : question;
                }
            }
        }
        return NONE;
    }

    /** In how many ways the askings from one step to the last make a fact sure. */
    private static int waysSure(
            long[] kept, int questions, long left, long factCases, int step, int steps) {
        if (step >= steps || step >= MOST_DRAWN) {
            return isSure(left, factCases) ? 1 : 0;
        }
        int ways = 0;
        for (int question = 0; question < questions; question++) {
            long behind = left & kept[step * MOST_QUESTIONS + question];
            ways += waysSure(kept, questions, behind, factCases, step + 1, steps);
        }
        return ways;
    }

    private boolean isHidden(int question) {
        for (int witness = 0; witness < now.witnesses; witness++) {
            if (now.reply(witness, question, now.asked + 1, now.caseNow) != NOTHING) {
                return false;
            }
        }
        return true;
    }

    private int samePairs(int what) {
        int many = 0;
        int earliest = NONE;
        for (int one = 0; one < now.questions; one++) {
            for (int other = one + 1; other < now.questions; other++) {
                if (now.truthOf(one) == now.truthOf(other)) {
                    earliest = many == 0 ? 10 * one + other : earliest;
                    many++;
                }
            }
        }
        return what == 0 ? many : earliest;
    }

    /** "Mine" is the choice of the first advocate, who wants many cases left. */
    private int settledPair(int witness, int one, int other) {
        long left = now.fitting();
        for (int mine = 0; mine < 2; mine++) {
            for (int his = 0; his < 2; his++) {
                int asked = now.onward(one, mine);
                int askedThen = now.onward(other, his);
                int many = leftBehind(left, witness, asked, askedThen);
                int mineElse = leftBehind(left, witness, now.onward(one, 1 - mine), askedThen);
                int hisElse = leftBehind(left, witness, asked, now.onward(other, 1 - his));
                if (mineElse <= many && hisElse >= many) {
                    return 10 * mine + his;
                }
            }
        }
        return NONE;
    }

    private int leftBehind(long left, int witness, int one, int other) {
        return Long.bitCount(left
                & now.keeping(witness, one, now.asked + 1)
                & now.keeping(witness, other, now.asked + 2));
    }

    private int kindsByRow(int witness) {
        trial.becomes(now);
        int kinds = 0;
        for (int kind = 0; kind < KINDS; kind++) {
            trial.kind[witness] = kind;
            if (isByRow(witness)) {
                kinds |= 1 << kind;
            }
        }
        return kinds;
    }

    private int knownByRow(int witness) {
        trial.becomes(now);
        int many = 0;
        for (int bits = 0; bits <= MOST_BITS; bits++) {
            trial.known[witness] = bits;
            if (isByRow(witness)) {
                many++;
            }
        }
        return many;
    }

    /** Whether a witness as he is in the trial court would answer all that the row tells. */
    private boolean isByRow(int witness) {
        for (int question = 0; question < rowLength; question++) {
            int answer = trial.reply(witness, question, trial.asked + 1, trial.caseNow);
            if (answer != rowNumbers[question]) {
                return false;
            }
        }
        return true;
    }

    private int firstWrongInRow() {
        for (int place = 0; place < rowLength; place++) {
            if (!now.hasPlace(place) || now.heardAnswer[place] != rowNumbers[place]) {
                return place;
            }
        }
        return NONE;
    }

    private int sessions(int n, int seed, int what) {
        int z = seed;
        int yes = 0;
        int left = 0;
        for (int session = 0; session < n; session++) {
            trial.becomes(now);
            for (int i = 0; i < SESSION_QUESTIONS; i++) {
                z = drawOn(z);
                int witness = drawBelow(z, now.witnesses);
                z = drawOn(z);
                if (trial.ask(witness, drawBelow(z, now.questions)) == YES) {
                    yes++;
                }
            }
            left += Long.bitCount(trial.fitting());
        }
        return what == 0 ? yes : left;
    }

    private static int drawOn(int z) {
        return z * 1664525 + 1013904223;
    }

    private static int drawBelow(int z, int bound) {
        return bound > 0 ? (z & 0x7FFFFFFF) / 256 % bound : 0;
    }

    /**
     * All that the image keeps: the case, the questions, the witnesses, what was heard.
     *
     * <p>Each place in an array is looked at against how many there are, which never is more than
     * the array has.
     */
    private static final class Court {
        int caseNow;
        int asked;
        int questions;
        int witnesses;
        int heardLength;
        final int[] form = new int[MOST_QUESTIONS];
        final int[] first = new int[MOST_QUESTIONS];
        final int[] second = new int[MOST_QUESTIONS];
        /** For each question the facts, in bits, that one must know to answer it. */
        final int[] needed = new int[MOST_QUESTIONS];
        /** For each question the cases by which it is so. */
        final long[] truth = new long[MOST_QUESTIONS];
        final int[] kind = new int[MOST_WITNESSES];
        final int[] figure = new int[MOST_WITNESSES];
        final int[] known = new int[MOST_WITNESSES];
        final int[] heardWitness = new int[MOST_HEARD];
        final int[] heardQuestion = new int[MOST_HEARD];
        final int[] heardAnswer = new int[MOST_HEARD];
        final int[] heardAsked = new int[MOST_HEARD];

        void becomes(Court other) {
            caseNow = other.caseNow;
            asked = other.asked;
            questions = other.questions;
            witnesses = other.witnesses;
            heardLength = other.heardLength;
            System.arraycopy(other.form, 0, form, 0, MOST_QUESTIONS);
            System.arraycopy(other.first, 0, first, 0, MOST_QUESTIONS);
            System.arraycopy(other.second, 0, second, 0, MOST_QUESTIONS);
            System.arraycopy(other.needed, 0, needed, 0, MOST_QUESTIONS);
            System.arraycopy(other.truth, 0, truth, 0, MOST_QUESTIONS);
            System.arraycopy(other.kind, 0, kind, 0, MOST_WITNESSES);
            System.arraycopy(other.figure, 0, figure, 0, MOST_WITNESSES);
            System.arraycopy(other.known, 0, known, 0, MOST_WITNESSES);
            System.arraycopy(other.heardWitness, 0, heardWitness, 0, MOST_HEARD);
            System.arraycopy(other.heardQuestion, 0, heardQuestion, 0, MOST_HEARD);
            System.arraycopy(other.heardAnswer, 0, heardAnswer, 0, MOST_HEARD);
            System.arraycopy(other.heardAsked, 0, heardAsked, 0, MOST_HEARD);
        }

        boolean hasQuestion(int question) {
            return question >= 0 && question < questions && question < MOST_QUESTIONS;
        }

        boolean hasWitness(int witness) {
            return witness >= 0 && witness < witnesses && witness < MOST_WITNESSES;
        }

        boolean hasPlace(int place) {
            return place >= 0 && place < heardLength && place < MOST_HEARD;
        }

        // ---- what statements change: false if they are not as they must be

        boolean flipFact(int fact) {
            if (!isFact(fact)) {
                return false;
            }
            caseNow ^= 1 << fact;
            return true;
        }

        boolean addQuestion(int itsForm, int one, int other) {
            boolean isWell = itsForm >= 0 && itsForm < FORMS && isFact(one) && isFact(other);
            if (!isWell || questions >= MOST_QUESTIONS) {
                return false;
            }
            form[questions] = itsForm;
            first[questions] = one;
            second[questions] = other;
            needed[questions] = itsForm >= FORM_BOTH ? 1 << one | 1 << other : 1 << one;
            truth[questions] = casesSo(itsForm, factCases(one), factCases(other));
            questions++;
            return true;
        }

        boolean addWitness(int itsKind, int itsFigure, int bits) {
            boolean isWell = itsKind >= 0 && itsKind < KINDS
                    && itsFigure >= 0 && itsFigure <= MOST_FIGURE
                    && bits >= 0 && bits <= MOST_BITS;
            if (!isWell || witnesses >= MOST_WITNESSES) {
                return false;
            }
            kind[witnesses] = itsKind;
            figure[witnesses] = itsFigure;
            known[witnesses] = bits;
            witnesses++;
            return true;
        }

        boolean flipKnown(int witness, int fact) {
            if (!hasWitness(witness) || !isFact(fact)) {
                return false;
            }
            known[witness] ^= 1 << fact;
            return true;
        }

        boolean canAsk(int witness, int question) {
            return hasWitness(witness) && hasQuestion(question) && asked < MOST_ASKED;
        }

        /** Of two that may be asked; the bound of ASKED is the caller's: a session has none. */
        int ask(int witness, int question) {
            asked++;
            int answer = reply(witness, question, asked, caseNow);
            if (heardLength >= MOST_HEARD) {
                dropFirstHeard();
            }
            heardWitness[heardLength] = witness;
            heardQuestion[heardLength] = question;
            heardAnswer[heardLength] = answer;
            heardAsked[heardLength] = asked;
            heardLength++;
            return answer;
        }

        private void dropFirstHeard() {
            heardLength = MOST_HEARD - 1;
            System.arraycopy(heardWitness, 1, heardWitness, 0, heardLength);
            System.arraycopy(heardQuestion, 1, heardQuestion, 0, heardLength);
            System.arraycopy(heardAnswer, 1, heardAnswer, 0, heardLength);
            System.arraycopy(heardAsked, 1, heardAsked, 0, heardLength);
        }

        // ---- questions

        private static long casesSo(int form, long one, long other) {
            switch (form) {
                case FORM_SO: return one;
                case FORM_NOT: return ~one;
                case FORM_BOTH: return one & other;
                case FORM_EITHER: return one | other;
                default: return ~(one ^ other);
            }
        }

        long truthOf(int question) {
            return hasQuestion(question) ? truth[question] : NO_CASE;
        }

        boolean isSo(int question) {
            return isIn(truthOf(question), caseNow);
        }

        int questionsSo() {
            int bits = 0;
            for (int question = 0; question < questions; question++) {
                if (isSo(question)) {
                    bits |= 1 << question;
                }
            }
            return bits;
        }

        /** The question so many places on, behind the last the first. */
        int onward(int question, int places) {
            return questions > 0 ? (question + places) % questions : question;
        }

        // ---- what somebody would say, asked as the time-th

        private long plainYes(int witness, int question) {
            boolean isKnown = (needed[question] & ~known[witness]) == 0;
            return isKnown ? truth[question] : NO_CASE;
        }

        private long plainNo(int witness, int question) {
            boolean isKnown = (needed[question] & ~known[witness]) == 0;
            return isKnown ? ~truth[question] : NO_CASE;
        }

        private boolean forgets(int witness, int time) {
            int every = figure[witness] + 1;
            return every > 0 && time % every == 0;
        }

        /** The cases by which a witness says yes. */
        private long yes(int witness, int question, int time) {
            if (!hasWitness(witness) || !hasQuestion(question)) {
                return NO_CASE;
            }
            switch (kind[witness]) {
                case LIAR: return plainNo(witness, question);
                case FORGETFUL:
                    return forgets(witness, time) ? NO_CASE : plainYes(witness, question);
                case RATHER: return plainYes(witness, onward(question, 1));
                // a brief one says yes or nothing, and a clerk makes yes of both
                case CLERK: return EVERY_CASE;
                default: return plainYes(witness, question);
            }
        }

        /** The cases by which a witness says no. */
        private long no(int witness, int question, int time) {
            if (!hasWitness(witness) || !hasQuestion(question)) {
                return NO_CASE;
            }
            switch (kind[witness]) {
                case LIAR: return plainYes(witness, question);
                case BRIEF: return NO_CASE;
                case FORGETFUL:
                    return forgets(witness, time) ? NO_CASE : plainNo(witness, question);
                case RATHER: return plainNo(witness, onward(question, 1));
                case CLERK: return NO_CASE;
                default: return plainNo(witness, question);
            }
        }

        /** The cases by which a witness says this answer. */
        long saying(int witness, int question, int time, int answer) {
            switch (answer) {
                case NO: return no(witness, question, time);
                case YES: return yes(witness, question, time);
                default: return ~(yes(witness, question, time) | no(witness, question, time));
            }
        }

        int reply(int witness, int question, int time, int cases) {
            if (isIn(yes(witness, question, time), cases)) {
                return YES;
            }
            return isIn(no(witness, question, time), cases) ? NO : NOTHING;
        }

        /** The cases by which the answer would be the one that it is by the case as it is. */
        long keeping(int witness, int question, int time) {
            return saying(witness, question, time, reply(witness, question, time, caseNow));
        }

        int questionsSaid(int witness, int time, int answer) {
            int many = 0;
            for (int question = 0; question < questions; question++) {
                if (reply(witness, question, time, caseNow) == answer) {
                    many++;
                }
            }
            return many;
        }

        // ---- what was heard

        long heardFitting(int place) {
            if (!hasPlace(place)) {
                return EVERY_CASE;
            }
            return saying(heardWitness[place], heardQuestion[place], heardAsked[place],
                    heardAnswer[place]);
        }

        long fitting() {
            long left = EVERY_CASE;
            for (int place = 0; place < heardLength; place++) {
                left &= heardFitting(place);
            }
            return left;
        }

        /** Of the jury, who knows who said what, but not to which question. */
        long juryFitting() {
            long left = EVERY_CASE;
            for (int place = 0; place < heardLength; place++) {
                long some = NO_CASE;
                for (int question = 0; question < questions; question++) {
                    some |= saying(heardWitness[place], question, heardAsked[place],
                            heardAnswer[place]);
                }
                left &= some;
            }
            return left;
        }

        /** The cases by which somebody has said something that is not so. */
        long untruths(int witness) {
            long cases = NO_CASE;
            for (int place = 0; place < heardLength; place++) {
                int answer = heardAnswer[place];
                if (heardWitness[place] == witness && answer != NOTHING) {
                    long so = truthOf(heardQuestion[place]);
                    cases |= answer == YES ? ~so : so;
                }
            }
            return cases;
        }

        /** How often somebody was heard to say yes or no. */
        int answersOf(int witness) {
            int many = 0;
            for (int place = 0; place < heardLength; place++) {
                if (heardWitness[place] == witness && heardAnswer[place] != NOTHING) {
                    many++;
                }
            }
            return many;
        }
    }

    /** The letters that came so far, and what they tell. */
    private static final class Script {
        int length;
        private final char[] text = new char[MOST_LETTERS];

        void add(char sign) {
            if (length < MOST_LETTERS) {
                text[length] = sign;
                length++;
            }
        }

        /** What must stand behind a statement's first letter; "" behind one that begins none. */
        private static String shape(char head) {
            switch (head) {
                case 'f': return "9;";
                case 'q': return "999;";
                case 'w': return "w999;";
                case 'k': return "99;";
                case 'a': return "99;";
                case 'n': return ";";
                default: return "";
            }
        }

        private static boolean isOfShape(char sign, char wanted) {
            switch (wanted) {
                case '9': return sign >= '0' && sign <= '9';
                case 'w': return KIND_LETTERS.indexOf(sign) >= 0;
                default: return sign == wanted;
            }
        }

        /** The first place where no court can go on; -1 if the text is whole. */
        int brokenPlace() {
            String wanted = "";
            int come = 0;
            for (int place = 0; place < length; place++) {
                if (come >= wanted.length()) {
                    wanted = shape(text[place]);
                    come = 0;
                    if (wanted.isEmpty()) {
                        return place;
                    }
                } else if (isOfShape(text[place], wanted.charAt(come))) {
                    come++;
                } else {
                    return place;
                }
            }
            return length == 0 || come < wanted.length() ? length : -1;
        }

        int statementLength(int place) {
            return 1 + shape(sign(place)).length();
        }

        private char sign(int place) {
            return place >= 0 && place < length && place < MOST_LETTERS ? text[place] : 0;
        }

        private int digit(int place) {
            return sign(place) - '0';
        }

        /** The statement at a place comes to a court: whether it was as it must be. */
        boolean play(int place, Court court) {
            int one = digit(place + 1);
            int other = digit(place + 2);
            switch (sign(place)) {
                case 'f': return court.flipFact(one);
                case 'q': return court.addQuestion(one, other, digit(place + 3));
                case 'w': return playWitness(place, court);
                case 'k': return court.flipKnown(one, other);
                case 'a':
                    if (!court.canAsk(one, other)) {
                        return false;
                    }
                    court.ask(one, other);
                    return true;
                case 'n':
                    court.heardLength = 0;
                    return true;
                default: return false;
            }
        }

        private boolean playWitness(int place, Court court) {
            int bits = 10 * digit(place + 3) + digit(place + 4);
            return court.addWitness(
                    KIND_LETTERS.indexOf(sign(place + 1)), digit(place + 2), bits);
        }
    }
}
