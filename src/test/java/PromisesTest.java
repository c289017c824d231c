/** Each promise of the document, by examples that are worked out by hand. */
public final class PromisesTest {
    private static final Check CHECK = new Check();
    private static final long REFUSAL = 4000000000000000000L;

    public static void main(String[] args) {
        aNewObject();
        letters();
        textsThatAreWhole();
        textsWithFault();
        textsWithWrongStatements();
        textsPlayedInOrder();
        factsAndCases();
        questions();
        witnesses();
        asking();
        askingTooOften();
        hearing();
        knowing();
        turning();
        emptying();
        answersOfKinds();
        answersRefused();
        fitting();
        juries();
        noneFits();
        sureness();
        bestNext();
        settling();
        settlingInTime();
        wordsSaid();
        liarsFound();
        clashes();
        truths();
        talkers();
        betrayals();
        verdicts();
        hiddenQuestions();
        sameQuestions();
        implications();
        twoAdvocates();
        draws();
        means();
        whatOneIs();
        rows();
        lots();
        images();
        counts();
        CHECK.close();
    }

    // ---- helpers

    private static void due(String call, long got, long want) {
        CHECK.due(call, got, want);
    }

    private static int tell(JuryHearsAnswers x, String text) {
        for (int i = 0; i < text.length(); i++) {
            x.letter(text.charAt(i));
        }
        return x.court();
    }

    /** A new court of which the text is told; the text must be without fault. */
    private static JuryHearsAnswers told(String text) {
        JuryHearsAnswers x = new JuryHearsAnswers();
        CHECK.that("told " + text, tell(x, text) > 0);
        return x;
    }

    private static void outcome(String text, int want) {
        JuryHearsAnswers x = new JuryHearsAnswers();
        due("court() of \"" + text + "\"", tell(x, text), want);
        due("letters behind \"" + text + "\"", x.count(7), 0);
    }

    private static void row(JuryHearsAnswers x, int... numbers) {
        x.clear();
        for (int v : numbers) {
            x.row(v);
        }
    }

    /** The 6 REFUSALS that were counted, as digits: -1 first. */
    private static int refusals(JuryHearsAnswers x) {
        int digits = 0;
        for (int what = 11; what <= 16; what++) {
            digits = 10 * digits + x.count(what);
        }
        return digits;
    }

    // ---- the court and its letters

    private static void aNewObject() {
        CHECK.about("promise 1");
        JuryHearsAnswers x = new JuryHearsAnswers();
        for (int what = 0; what <= 7; what++) {
            due("count(" + what + ")", x.count(what), 0);
        }
        due("refusals", refusals(x), 0);
        due("fits(0)", x.fits(0), 64);
        due("question(0, 0)", x.question(0, 0), -1);
        due("witness(0, 0)", x.witness(0, 0), -1);
        due("on()", x.on(), -3);
    }

    private static void letters() {
        CHECK.about("promise 2");
        JuryHearsAnswers x = new JuryHearsAnswers();
        due("letter(0)", x.letter(0), 1);
        due("letter(255)", x.letter(255), 2);
        due("letter(-1)", x.letter(-1), -4);
        due("letter(256)", x.letter(256), -6);
        for (int i = 3; i <= 96; i++) {
            due("letter " + i, x.letter(';'), i);
        }
        due("the 97th", x.letter(';'), -6);
        due("below, with no room", x.letter(-5), -4);
        due("count(7)", x.count(7), 96);
        due("refusals", refusals(x), 202);
        due("court()", x.court(), -1000);
        due("count(7)", x.count(7), 0);
        due("letter(102)", x.letter('f'), 1);
    }

    private static void textsThatAreWhole() {
        CHECK.about("promise 3, whole");
        outcome("f0;", 1);
        outcome("n;", 1);
        outcome("n;n;", 2);
        outcome("q000;q455;", 2);
        outcome("ww000;wl163;wb200;wf900;wr900;", 5);
        outcome("wc900;k00;k05;", 3);
        outcome("q000;ww000;a00;", 3);
        StringBuilder full = new StringBuilder();
        for (int i = 0; i < 32; i++) {
            full.append("f3;");
        }
        outcome(full.toString(), 32);
    }

    private static void textsWithFault() {
        CHECK.about("promise 3, fault of kind 1");
        outcome("", -1000);
        outcome(";", -1000);
        outcome("x", -1000);
        outcome("F0;", -1000);
        outcome(" f0;", -1000);
        outcome("0", -1000);
        outcome("f", -1001);
        outcome("f;", -1001);
        outcome("f:;", -1001);
        outcome("f/;", -1001);
        outcome("f0", -1002);
        outcome("f00", -1002);
        outcome("f0f1;", -1002);
        outcome("f0;x", -1003);
        outcome("f0;f", -1004);
        outcome("q00;", -1003);
        outcome("q0000;", -1004);
        outcome("wx000;", -1001);
        outcome("wW000;", -1001);
        outcome("w0000;", -1001);
        outcome("w;", -1001);
        outcome("ww00;", -1004);
        outcome("ww0000;", -1005);
        outcome("k0;", -1002);
        outcome("k000;", -1003);
        outcome("a0;", -1002);
        outcome("a000;", -1003);
        outcome("n0;", -1001);
        outcome("n", -1001);
        outcome("f6;x", -1003);
        outcome("f6;f0", -1005);
        JuryHearsAnswers x = new JuryHearsAnswers();
        due("court()", tell(x, "f0;f1;x"), -1006);
        due("nothing came", x.count(2), 0);
        due("nothing is counted", refusals(x), 0);
    }

    private static void textsWithWrongStatements() {
        CHECK.about("promise 3, fault of kind 2");
        outcome("f6;", -2000);
        outcome("f9;", -2000);
        outcome("f5;f6;", -2003);
        outcome("q500;", -2000);
        outcome("q060;", -2000);
        outcome("q006;", -2000);
        outcome("q106;", -2000);
        outcome("ww064;", -2000);
        outcome("ww099;", -2000);
        outcome("k00;", -2000);
        outcome("ww000;k10;", -2006);
        outcome("ww000;k06;", -2006);
        outcome("a00;", -2000);
        outcome("ww000;a00;q000;", -2006);
        outcome("q000;a00;ww000;", -2005);
        outcome("q000;ww000;a10;", -2011);
        outcome("q000;ww000;a01;", -2011);
        outcome("ww000;wl000;wb000;wf000;wr000;wc000;", -2030);
        outcome("q000;q000;q000;q000;q000;q000;q000;q000;q000;", -2040);
        outcome("n;f6;f7;", -2002);
        JuryHearsAnswers x = told("f0;q000;ww001;");
        due("court()", tell(x, "f1;q111;wl101;k01;a00;n;k20;"), -2024);
        due("questions", x.count(0), 1);
        due("witnesses", x.count(1), 1);
        due("the case", x.count(2), 1);
        due("asked", x.count(4), 0);
        due("knows", x.witness(0, 2), 1);
        due("nothing is counted", refusals(x), 0);
    }

    private static void textsPlayedInOrder() {
        CHECK.about("promise 3, played");
        JuryHearsAnswers x = told("f0;f2;f0;f5;");
        due("the case", x.count(2), 36);
        due("told again", tell(x, "f2;f1;"), 2);
        due("the case", x.count(2), 34);
        x = told("q012;q345;wl906;wc063;");
        due("form", x.question(1, 0), 3);
        due("first", x.question(1, 1), 4);
        due("second", x.question(1, 2), 5);
        due("second of form 0", x.question(0, 2), 2);
        due("kind", x.witness(0, 0), 1);
        due("figure", x.witness(0, 1), 9);
        due("knows", x.witness(0, 2), 6);
        due("kind", x.witness(1, 0), 5);
        due("knows", x.witness(1, 2), 63);
        tell(x, "k01;k05;k05;k03;");
        due("knows by telling", x.witness(0, 2), 12);
        // the same question before and behind a fact that is told
        x = told("q000;ww001;a00;f0;a00;n;a00;f0;a00;");
        due("asked", x.count(4), 4);
        due("heard", x.count(3), 2);
        due("behind n", x.heard(0, 2), 1);
        due("the last", x.heard(1, 2), 0);
        due("its asked", x.heard(1, 3), 4);
    }

    private static void factsAndCases() {
        CHECK.about("promises 4, 9");
        JuryHearsAnswers x = new JuryHearsAnswers();
        due("sets(37)", x.sets(37), 0);
        due("facts", x.fact(0) + 2 * x.fact(1) + 4 * x.fact(2)
                + 8 * x.fact(3) + 16 * x.fact(4) + 32 * x.fact(5), 37);
        due("fact(0)", x.fact(0), 1);
        due("fact(1)", x.fact(1), 0);
        due("fact(5)", x.fact(5), 1);
        due("fact(6)", x.fact(6), -1);
        due("fact(-1)", x.fact(-1), -1);
        due("sets(-1)", x.sets(-1), -4);
        due("sets(64)", x.sets(64), -6);
        due("count(2)", x.count(2), 37);
        due("sets(63)", x.sets(63), 37);
        due("sets(0)", x.sets(0), 63);
        due("refusals", refusals(x), 200101);
    }

    private static void questions() {
        CHECK.about("promise 5");
        JuryHearsAnswers x = told("q001;q101;q201;q301;q401;q422;");
        for (int cases = 0; cases < 4; cases++) {
            x.sets(cases);
            boolean one = (cases & 1) != 0;
            boolean other = (cases & 2) != 0;
            due("so", x.question(0, 3), one ? 1 : 0);
            due("not", x.question(1, 3), one ? 0 : 1);
            due("both", x.question(2, 3), one && other ? 1 : 0);
            due("either", x.question(3, 3), one || other ? 1 : 0);
            due("alike", x.question(4, 3), one == other ? 1 : 0);
            due("alike itself", x.question(5, 3), 1);
        }
        due("form", x.question(3, 0), 3);
        due("first", x.question(3, 1), 0);
        due("second", x.question(3, 2), 1);
        due("question(6, 0)", x.question(6, 0), -1);
        due("question(-1, 9)", x.question(-1, 9), -1);
        due("question(0, 4)", x.question(0, 4), -2);
        due("question(0, -1)", x.question(0, -1), -2);
        due("refusals", refusals(x), 220000);
    }

    private static void witnesses() {
        CHECK.about("promise 6");
        JuryHearsAnswers x = told("ww001;wl102;wb203;wf304;wr905;");
        for (int witness = 0; witness < 5; witness++) {
            due("kind", x.witness(witness, 0), witness);
            due("figure", x.witness(witness, 1), witness == 4 ? 9 : witness);
            due("knows", x.witness(witness, 2), witness + 1);
        }
        due("witness(5, 0)", x.witness(5, 0), -1);
        due("witness(-1, 7)", x.witness(-1, 7), -1);
        due("witness(0, 3)", x.witness(0, 3), -2);
        due("witness(0, -1)", x.witness(0, -1), -2);
        due("refusals", refusals(x), 220000);
    }

    private static void asking() {
        CHECK.about("promise 7");
        JuryHearsAnswers x = told("f0;q000;q111;q022;ww003;wf163;");
        due("asks(0, 0)", x.asks(0, 0), 1);
        due("asks(0, 2)", x.asks(0, 2), 2);
        due("asked", x.count(4), 2);
        x.sets(2);
        due("asks(0, 1)", x.asks(0, 1), 0);
        due("asked as the fourth, a forgetful one", x.asks(1, 0), 2);
        due("asked as the fifth", x.asks(1, 0), 0);
        due("asks(2, 0)", x.asks(2, 0), -1);
        due("asks(-1, 0)", x.asks(-1, 0), -1);
        due("asks(0, 3)", x.asks(0, 3), -1);
        due("asks(0, -1)", x.asks(0, -1), -1);
        due("asked", x.count(4), 5);
        due("heard", x.count(3), 5);
        due("refusals", refusals(x), 400000);
    }

    /** No run of 512 calls comes to this bound, but it is told. */
    private static void askingTooOften() {
        CHECK.about("promises 3, 7, the bound of ASKED");
        JuryHearsAnswers x = told("q000;ww063;");
        for (int i = 0; i < 998; i++) {
            x.asks(0, 0);
        }
        due("the last but one", x.count(4), 998);
        due("court()", tell(x, "a00;f0;a00;"), -2007);
        due("nothing of it", x.count(4), 998);
        due("asks(0, 0)", x.asks(0, 0), 0);
        due("asked", x.count(4), 999);
        due("asks(0, 0)", x.asks(0, 0), -6);
        due("court()", tell(x, "a00;"), -2000);
        due("asked", x.count(4), 999);
        due("heard", x.heard(11, 3), 999);
        due("answer(0, 0, 1)", x.answer(0, 0, 1), 1);
        due("refusals", refusals(x), 1);
    }

    private static void hearing() {
        CHECK.about("promise 8");
        JuryHearsAnswers x = told("f0;q000;q111;ww003;wl003;");
        x.asks(1, 0);
        x.asks(0, 1);
        int[] first = {1, 0, 0, 1};
        int[] then = {0, 1, 1, 2};
        for (int what = 0; what < 4; what++) {
            due("heard(0, " + what + ")", x.heard(0, what), first[what]);
            due("heard(1, " + what + ")", x.heard(1, what), then[what]);
        }
        due("heard(2, 0)", x.heard(2, 0), -1);
        due("heard(-1, 9)", x.heard(-1, 9), -1);
        due("heard(0, 4)", x.heard(0, 4), -2);
        due("heard(0, -1)", x.heard(0, -1), -2);
        for (int i = 0; i < 10; i++) {
            x.asks(0, 0);
        }
        due("of 12 none is dropped yet", x.heard(0, 0), 1);
        due("asks(0, 1)", x.asks(0, 1), 1);
        due("heard", x.count(3), 12);
        due("the first is dropped", x.heard(0, 3), 2);
        due("its witness", x.heard(0, 0), 0);
        due("its question", x.heard(0, 1), 1);
        due("its answer", x.heard(0, 2), 1);
        due("the next one's", x.heard(1, 1), 0);
        due("the last's asked", x.heard(11, 3), 13);
        due("the last's question", x.heard(11, 1), 1);
        due("heard(12, 0)", x.heard(12, 0), -1);
        due("refusals", refusals(x), 320000);
    }

    private static void knowing() {
        CHECK.about("promise 10");
        JuryHearsAnswers x = told("f0;q000;ww005;wl006;");
        due("knows(1, 63)", x.knows(1, 63), 6);
        due("knows(0, 62)", x.knows(0, 62), 5);
        due("answer", x.answer(0, 0, -1), 2);
        due("knows(0, 0)", x.knows(0, 0), 62);
        due("knows(0, 1)", x.knows(0, 1), 0);
        due("answer", x.answer(0, 0, -1), 1);
        due("the other's", x.witness(1, 2), 63);
        due("knows(2, -1)", x.knows(2, -1), -1);
        due("knows(-1, 0)", x.knows(-1, 0), -1);
        due("knows(0, -1)", x.knows(0, -1), -4);
        due("knows(0, 64)", x.knows(0, 64), -6);
        due("as it was", x.witness(0, 2), 1);
        due("refusals", refusals(x), 200101);
    }

    private static void turning() {
        CHECK.about("promise 11");
        JuryHearsAnswers x = told("f0;q000;wr763;ww163;");
        due("turn(0, 1, 9)", x.turn(0, 1, 9), 47);
        due("kind", x.witness(0, 0), 1);
        due("figure", x.witness(0, 1), 9);
        due("knows", x.witness(0, 2), 63);
        due("answer", x.answer(0, 0, -1), 0);
        due("turn(0, 5, 0)", x.turn(0, 5, 0), 19);
        due("turn(1, 0, 0)", x.turn(1, 0, 0), 1);
        due("turn(2, 9, 0)", x.turn(2, 9, 0), -1);
        due("turn(-1, 0, 0)", x.turn(-1, 0, 0), -1);
        due("turn(0, 6, -1)", x.turn(0, 6, -1), -2);
        due("turn(0, -1, 0)", x.turn(0, -1, 0), -2);
        due("turn(0, 0, -1)", x.turn(0, 0, -1), -4);
        due("turn(0, 0, 10)", x.turn(0, 0, 10), -6);
        due("as it was", 10 * x.witness(0, 0) + x.witness(0, 1), 50);
        due("refusals", refusals(x), 220101);
    }

    private static void emptying() {
        CHECK.about("promise 12");
        JuryHearsAnswers x = told("f0;q000;ww063;a00;a00;");
        due("empties()", x.empties(), 2);
        due("empties()", x.empties(), 0);
        due("heard(0, 0)", x.heard(0, 0), -1);
        due("heard", x.count(3), 0);
        due("asked stays", x.count(4), 2);
        due("fits(0)", x.fits(0), 64);
    }

    // ---- answers

    /** Five questions, of which one who knows 0 and 1 can answer the first three. */
    private static final String FIVE = "f0;q000;q110;q201;q302;q412;";

    private static void answersBy(JuryHearsAnswers x, String kind, int cases, int... want) {
        for (int question = 0; question < want.length; question++) {
            due(kind + " to " + question, x.answer(0, question, cases), want[question]);
        }
    }

    private static void answersOfKinds() {
        CHECK.about("promise 13");
        JuryHearsAnswers x = told(FIVE + "ww003;");
        answersBy(x, "witness", -1, 1, 1, 0, 2, 2);
        answersBy(x, "witness by 2", 2, 0, 0, 0, 2, 2);
        answersBy(x, "witness by 63", 63, 1, 0, 1, 2, 2);
        x.turn(0, 1, 0);
        answersBy(x, "liar", -1, 0, 0, 1, 2, 2);
        x.turn(0, 2, 0);
        answersBy(x, "brief", -1, 1, 1, 2, 2, 2);
        x.turn(0, 4, 0);
        answersBy(x, "rather", -1, 1, 0, 2, 2, 1);
        answersBy(x, "rather by 0", 0, 1, 0, 2, 2, 0);
        x.turn(0, 5, 0);
        answersBy(x, "clerk", -1, 1, 1, 1, 1, 1);
        due("whatever is so", x.next(1), 64);
        due("a clerk's yes fits all", x.asks(0, 2) == 1 && x.fits(0) == 64 ? 1 : 0, 1);
        x = told(FIVE + "ww003;");
        x.turn(0, 3, 1);
        answersBy(x, "forgetful, as the first", -1, 1, 1, 0, 2, 2);
        x.asks(0, 0);
        answersBy(x, "forgetful, as the second", -1, 2, 2, 2, 2, 2);
        x.turn(0, 3, 2);
        answersBy(x, "forgetful by 3, as the second", -1, 1, 1, 0, 2, 2);
        x.turn(0, 3, 0);
        answersBy(x, "forgetful by 1", -1, 2, 2, 2, 2, 2);
        x.knows(0, 63);
        x.turn(0, 0, 0);
        answersBy(x, "one who knows all", -1, 1, 1, 0, 1, 1);
        // the first fact alone is what forms 0 and 1 need, both what the others do
        x = told("q005;q105;q205;q305;q405;ww001;");
        answersBy(x, "who knows the first", -1, 0, 1, 2, 2, 2);
        x.knows(0, 32);
        answersBy(x, "who knows the other", -1, 2, 2, 2, 2, 2);
        x.knows(0, 33);
        answersBy(x, "who knows both", -1, 0, 1, 0, 0, 1);
        due("nothing is asked", x.count(4), 0);
    }

    private static void answersRefused() {
        CHECK.about("promise 13, refused");
        JuryHearsAnswers x = told("q000;ww063;");
        due("answer(0, 0, 1)", x.answer(0, 0, 1), 1);
        due("answer(0, 0, 62)", x.answer(0, 0, 62), 0);
        due("answer(1, 0, -2)", x.answer(1, 0, -2), -1);
        due("answer(-1, 0, 0)", x.answer(-1, 0, 0), -1);
        due("answer(0, 1, 64)", x.answer(0, 1, 64), -1);
        due("answer(0, -1, 0)", x.answer(0, -1, 0), -1);
        due("answer(0, 0, -2)", x.answer(0, 0, -2), -4);
        due("answer(0, 0, 64)", x.answer(0, 0, 64), -6);
        due("refusals", refusals(x), 400101);
    }

    private static void fitting() {
        CHECK.about("promise 14");
        JuryHearsAnswers x = told("f0;f3;q000;q111;q203;q345;ww063;wf163;");
        x.asks(0, 0);
        due("fact 0 is so", x.fits(0), 32);
        due("the least", x.fits(1), 1);
        x.asks(1, 3);
        due("forgotten", x.fits(0), 32);
        x.asks(0, 1);
        due("fact 1 is not", x.fits(0), 16);
        x.asks(0, 2);
        due("fact 3 is", x.fits(0), 8);
        due("the least", x.fits(1), 9);
        x.asks(1, 3);
        due("4, 5 are not", x.fits(0), 2);
        due("by asked as it was then", x.fits(1), 9);
        // what was heard is looked at by what the witness is now
        x.knows(1, 0);
        due("he could not know", x.fits(0), 0);
        due("fits(2)", x.fits(2), -2);
        due("fits(-1)", x.fits(-1), -2);
        due("refusals", refusals(x), 20000);
    }

    private static void juries() {
        CHECK.about("promise 15");
        JuryHearsAnswers x = told("f0;q000;q011;ww063;");
        x.asks(0, 0);
        due("0 or 1", x.jury(0), 48);
        due("the least", x.jury(1), 1);
        due("the judge's", x.fits(0), 32);
        x.asks(0, 1);
        due("just one of them", x.jury(0), 32);
        due("the judge's", x.fits(0), 16);
        // a forgetful one says nothing to everything, if it is his time
        x = told("q000;q011;wf163;a00;a00;");
        due("jury(0)", x.jury(0), 48);
        due("jury(1)", x.jury(1), 0);
        due("heard", x.heard(1, 2), 2);
        // another question, later told, is one that might have been asked
        x = told("f0;q000;ww063;a00;");
        due("one question", x.jury(0), 32);
        tell(x, "q011;");
        due("one more", x.jury(0), 48);
        due("jury(2)", x.jury(2), -2);
        due("jury(-1)", x.jury(-1), -2);
        due("refusals", refusals(x), 20000);
    }

    /** A liar's no of a fact that is so, which a brief one never says. */
    private static JuryHearsAnswers noneFitting() {
        JuryHearsAnswers x = told("f0;q000;q011;wl063;a00;");
        x.turn(0, 2, 0);
        return x;
    }

    private static void noneFits() {
        CHECK.about("none fits");
        JuryHearsAnswers x = noneFitting();
        due("fits(0)", x.fits(0), 0);
        due("fits(1)", x.fits(1), -9);
        due("jury(0)", x.jury(0), 0);
        due("jury(1)", x.jury(1), -9);
        due("sure(0)", x.sure(0), 0);
        due("sure(1)", x.sure(1), 0);
        due("next(0)", x.next(0), 0);
        due("next(1)", x.next(1), 0);
        due("settle(0, 0, 0)", x.settle(0, 0, 0), -9);
        due("settle(0, 0, 1)", x.settle(0, 0, 1), -9);
        due("liars()", x.liars(), 0);
        due("verdict(0, 0)", x.verdict(0, 0), 0);
        due("verdict(0, 1)", x.verdict(0, 1), 1);
        due("implies(0, 1)", x.implies(0, 1), 1);
        due("two(0, 0, 1)", x.two(0, 0, 1), 0);
        due("drawn(0, 3, 0, 0)", x.drawn(0, 3, 0, 0), 0);
        due("drawn(0, 3, 0, 1)", x.drawn(0, 3, 0, 1), 1);
        due("mean(0)", x.mean(0), 0);
        due("mean(1)", x.mean(1), 1);
        due("nothing is counted", refusals(x), 0);
    }

    private static void sureness() {
        CHECK.about("promise 16");
        JuryHearsAnswers x = told("f0;q000;q111;q345;ww063;");
        due("sure(0)", x.sure(0), 0);
        x.asks(0, 0);
        due("fact 0 is so", x.sure(0), 1);
        due("the jury's", x.sure(1), 0);
        x.asks(0, 1);
        due("fact 1 is not", x.sure(0), 3);
        x.asks(0, 2);
        due("4, 5 are not", x.sure(0), 51);
        due("the jury's", x.sure(1), 0);
        x = told("f0;f3;q000;q203;ww063;a01;");
        due("the judge's", x.sure(0), 9);
        due("the jury's", x.sure(1), 1);
        due("sure(2)", x.sure(2), -2);
        due("sure(-1)", x.sure(-1), -2);
        due("refusals", refusals(x), 20000);
    }

    private static void bestNext() {
        CHECK.about("promise 17");
        JuryHearsAnswers x = new JuryHearsAnswers();
        due("next(0)", x.next(0), -9);
        due("next(1)", x.next(1), -9);
        tell(x, "ww000;");
        due("no questions", x.next(0), -9);
        x = told("q000;");
        due("no witnesses", x.next(1), -9);
        x = told("q201;q000;ww000;ww003;wb003;");
        due("the witness before the question", x.next(0), 11);
        due("half of them", x.next(1), 32);
        x.knows(0, 3);
        due("of several the first", x.next(0), 1);
        x.knows(1, 0);
        x.knows(0, 0);
        due("a brief one divides likewise", x.next(0), 21);
        due("next(1)", x.next(1), 32);
        // whatever it is: the worst answer counts, not that by the case
        x = told("f0;f1;q201;q022;ww007;");
        due("next(0)", x.next(0), 1);
        due("next(1)", x.next(1), 32);
        // he forgets, were he asked next
        x = told("q000;wf163;ww000;");
        due("he doesn't yet", x.next(1), 32);
        x.asks(0, 0);
        x.empties();
        due("now he does", x.next(1), 64);
        x.turn(0, 3, 2);
        due("nor by three", x.next(1), 32);
        x = told("q000;wf063;ww000;");
        due("next(0)", x.next(0), 0);
        due("next(1)", x.next(1), 64);
        x = told("q000;q011;ww063;a00;");
        due("what is known divides no more", x.next(0), 1);
        due("next(1)", x.next(1), 16);
        due("next(2)", x.next(2), -2);
        due("next(-1)", x.next(-1), -2);
        due("refusals", refusals(x), 20000);
    }

    private static void settles(JuryHearsAnswers x, int fact, int fewest, int first) {
        due("settle(0, " + fact + ", 0)", x.settle(0, fact, 0), fewest);
        due("settle(0, " + fact + ", 1)", x.settle(0, fact, 1), first);
    }

    private static void settling() {
        CHECK.about("promise 18");
        JuryHearsAnswers x = told("f1;q201;q011;ww003;");
        settles(x, 1, 1, 1);
        settles(x, 0, 2, 0);
        settles(x, 2, -9, -9);
        x.asks(0, 1);
        settles(x, 1, 0, -9);
        settles(x, 0, 1, 0);
        // a chain: whether two are alike, and one of its end
        x = told("q022;q412;q401;ww063;");
        settles(x, 0, 3, 0);
        settles(x, 1, 2, 0);
        x = told("q401;q422;q412;q022;ww063;");
        settles(x, 0, 3, 0);
        settles(x, 1, 2, 2);
        x = told("q401;q412;q423;q033;ww063;");
        settles(x, 0, -9, -9);
        settles(x, 1, 3, 1);
        due("settle(1, 0, 5)", x.settle(1, 0, 5), -1);
        due("settle(-1, 0, 0)", x.settle(-1, 0, 0), -1);
        due("settle(0, 6, 0)", x.settle(0, 6, 0), -1);
        due("settle(0, -1, 0)", x.settle(0, -1, 0), -1);
        due("settle(0, 0, 2)", x.settle(0, 0, 2), -2);
        due("settle(0, 0, -1)", x.settle(0, 0, -1), -2);
        due("asked", x.count(4), 0);
        due("refusals", refusals(x), 420000);
    }

    private static void settlingInTime() {
        CHECK.about("promise 18, in time");
        JuryHearsAnswers x = told("q000;wf163;");
        settles(x, 0, 1, 0);
        x.asks(0, 0);
        x.empties();
        settles(x, 0, 2, 0);
        x.turn(0, 3, 0);
        settles(x, 0, -9, -9);
        // by the case as it is, even if it fits no more: with none left nothing is sure
        x = told("f0;q000;q011;ww063;a00;");
        x.sets(0);
        settles(x, 0, 0, -9);
        settles(x, 1, 1, 1);
        x = told("f0;q000;q201;ww063;a00;");
        x.sets(0);
        settles(x, 1, 1, 1);
        x = told("f0;f1;q000;q301;ww063;a01;");
        x.sets(0);
        settles(x, 0, 1, 0);
        x = told("f0;f1;q201;q000;ww063;a00;n;");
        x.sets(0);
        settles(x, 1, -9, -9);
    }

    private static void wordsSaid() {
        CHECK.about("promise 19");
        JuryHearsAnswers x = told(FIVE + "ww003;wl003;wf103;");
        int[][] want = {{1, 2, 2}, {2, 1, 2}, {1, 2, 2}};
        for (int witness = 0; witness < 3; witness++) {
            for (int answer = 0; answer < 3; answer++) {
                due("words", x.words(witness, answer), want[witness][answer]);
            }
        }
        x.asks(0, 0);
        due("by asked and 1", x.words(2, 2), 5);
        due("words(3, 5)", x.words(3, 5), -1);
        due("words(-1, 0)", x.words(-1, 0), -1);
        due("words(0, 3)", x.words(0, 3), -2);
        due("words(0, -1)", x.words(0, -1), -2);
        due("refusals", refusals(x), 220000);
    }

    // ---- what the answers tell

    private static void liarsFound() {
        CHECK.about("promise 20");
        JuryHearsAnswers x = told("f0;q000;q111;ww003;wl003;wc000;wl000;");
        due("liars()", x.liars(), 0);
        x.asks(0, 0);
        x.asks(3, 0);
        due("nothing is no lie", x.liars(), 0);
        x.asks(1, 0);
        due("no to what is", x.liars(), 2);
        x.asks(2, 1);
        due("yes to what may be", x.liars(), 2);
        x.sets(2);
        x.asks(2, 1);
        x.asks(0, 1);
        due("yes to what is not", x.liars(), 6);
        // by each case another one of what he said is not so: he asked of 0 thinks of 5
        x = told("f5;q000;q055;q100;q055;wr063;a00;");
        due("one of both may be so", x.liars(), 0);
        x.asks(0, 2);
        due("both can't be", x.liars(), 1);
    }

    private static void clashes() {
        CHECK.about("promise 21");
        JuryHearsAnswers x = told("f0;f1;q000;q011;ww063;");
        due("clash()", x.clash(), -9);
        x.asks(0, 0);
        due("one alone", x.clash(), -9);
        x.asks(0, 1);
        due("both fit", x.clash(), -9);
        x.sets(0);
        x.asks(0, 1);
        due("the later two", x.clash(), 102);
        x.asks(0, 0);
        due("by the earlier place", x.clash(), 3);
        x = told("q000;ww063;a00;n;");
        for (int i = 0; i < 11; i++) {
            x.asks(0, 0);
        }
        x.sets(1);
        x.asks(0, 0);
        due("places of two digits", x.clash(), 11);
        // three that clash together, but no two of them
        x = told("f0;f1;q000;q011;q201;ww063;a00;a01;");
        x.sets(0);
        x.asks(0, 2);
        due("fits(0)", x.fits(0), 0);
        due("clash()", x.clash(), -9);
    }

    private static void truths() {
        CHECK.about("promise 22");
        JuryHearsAnswers x = told("f0;q000;q011;q022;ww003;wl003;");
        for (int question = 0; question < 3; question++) {
            x.asks(0, question);
            x.asks(1, question);
        }
        due("trueOf(0)", x.trueOf(0), 2);
        due("trueOf(1)", x.trueOf(1), 0);
        x.sets(3);
        due("by the case as it is", x.trueOf(0), 1);
        due("trueOf(1)", x.trueOf(1), 1);
        due("trueOf(2)", x.trueOf(2), -1);
        due("trueOf(-1)", x.trueOf(-1), -1);
        due("refusals", refusals(x), 200000);
    }

    private static void talkers() {
        CHECK.about("promise 23");
        JuryHearsAnswers x = told("f0;q000;q011;wb063;ww063;wl063;");
        x.asks(0, 1);
        due("nothing said", x.talker(), -9);
        x.asks(2, 0);
        due("who said no", x.talker(), 2);
        x.asks(1, 0);
        due("of several the least", x.talker(), 1);
        x.asks(2, 1);
        due("who said most", x.talker(), 2);
        x = told("f0;q000;wl063;ww063;a00;");
        due("the first alone", x.talker(), 0);
        x.empties();
        due("none has", x.talker(), -9);
    }

    private static void betrayals() {
        CHECK.about("promise 24");
        JuryHearsAnswers x = told(FIVE + "ww003;wf103;");
        x.asks(0, 0);
        x.asks(0, 2);
        x.asks(1, 0);
        due("yes", x.betrays(0), 2);
        due("no", x.betrays(1), 1);
        due("as the third", x.betrays(2), 2);
        x.asks(1, 4);
        due("nothing, of one who forgets", x.betrays(3), 5);
        x.sets(62);
        due("by the case as it is", x.betrays(0), 0);
        due("betrays(4)", x.betrays(4), -1);
        due("betrays(-1)", x.betrays(-1), -1);
        due("refusals", refusals(x), 200000);
    }

    private static void fraction(String what, long above, long below, long... want) {
        due(what + ", above", above, want[0]);
        due(what + ", below", below, want[1]);
    }

    private static void verdicts() {
        CHECK.about("promise 25");
        JuryHearsAnswers x = told("f0;q000;q011;ww063;");
        fraction("at first", x.verdict(5, 0), x.verdict(5, 1), 1, 2);
        x.asks(0, 0);
        fraction("0 or 1", x.verdict(0, 0), x.verdict(0, 1), 2, 3);
        fraction("another", x.verdict(2, 0), x.verdict(2, 1), 1, 2);
        x = told("f0;q000;q100;ww063;a00;");
        fraction("two that differ", x.verdict(0, 0), x.verdict(0, 1), 1, 2);
        x = told("f0;q000;q011;ww003;wl003;a00;a10;");
        fraction("with a liar", x.verdict(1, 0), x.verdict(1, 1), 2, 3);
        x = told("f0;q000;ww063;a00;");
        fraction("so by all", x.verdict(0, 0), x.verdict(0, 1), 1, 1);
        x = told("q000;ww063;a00;");
        fraction("so by none", x.verdict(0, 0), x.verdict(0, 1), 0, 1);
        due("verdict(6, 5)", x.verdict(6, 5), REFUSAL + 1);
        due("verdict(-1, 0)", x.verdict(-1, 0), REFUSAL + 1);
        due("verdict(0, 2)", x.verdict(0, 2), REFUSAL + 2);
        due("verdict(0, -1)", x.verdict(0, -1), REFUSAL + 2);
        due("refusals", refusals(x), 220000);
    }

    private static void hiddenQuestions() {
        CHECK.about("promise 26");
        JuryHearsAnswers x = told(FIVE);
        due("no witnesses", x.hidden(), 31);
        tell(x, "ww003;");
        due("what he doesn't know", x.hidden(), 24);
        tell(x, "wb005;");
        due("with a brief one", x.hidden(), 16);
        x.sets(0);
        due("by another case", x.hidden(), 24);
        x.turn(0, 3, 1);
        due("one who remembers", x.hidden(), 24);
        x.asks(1, 0);
        due("one who forgets, by asked and 1", x.hidden(), 31);
        x.turn(0, 5, 0);
        due("a clerk", x.hidden(), 0);
    }

    private static void sameQuestions() {
        CHECK.about("promise 27");
        JuryHearsAnswers x = told("q000;q111;");
        due("same(0)", x.same(0), 0);
        due("same(1)", x.same(1), -9);
        x = told("q022;q000;q200;q303;q300;q411;q455;q433;");
        due("same(0)", x.same(0), 6);
        due("same(1)", x.same(1), 12);
        x = told("q022;q322;");
        due("the lesser is 0", x.same(1), 1);
        x = told("q001;q010;q201;q210;");
        due("facts the other way round", x.same(0), 1);
        due("same(1)", x.same(1), 23);
        due("same(2)", x.same(2), -2);
        due("same(-1)", x.same(-1), -2);
        due("refusals", refusals(x), 20000);
    }

    private static void implications() {
        CHECK.about("promise 28");
        JuryHearsAnswers x = told("f0;f1;q201;q000;q011;q100;ww063;");
        due("both, then one", x.implies(0, 1), 1);
        due("one, then both", x.implies(1, 0), 0);
        due("itself", x.implies(2, 2), 1);
        due("one, then not", x.implies(1, 3), 0);
        x.asks(0, 2);
        due("by those that fit", x.implies(1, 0), 1);
        x.asks(0, 1);
        due("what is never so", x.implies(3, 1), 1);
        due("implies(4, 0)", x.implies(4, 0), -1);
        due("implies(0, 4)", x.implies(0, 4), -1);
        due("implies(-1, 0)", x.implies(-1, 0), -1);
        due("implies(0, -1)", x.implies(0, -1), -1);
        due("refusals", refusals(x), 400000);
    }

    // ---- askings that are thought of

    private static void twoAdvocates() {
        CHECK.about("promise 29");
        // q1 tells what q0 tells, q2 something else
        JuryHearsAnswers x = told("q000;q100;q011;ww063;");
        due("two(0, 0, 1)", x.two(0, 0, 1), 1);
        due("the next of the last is the first", x.two(0, 2, 0), 10);
        due("two(0, 0, 0)", x.two(0, 0, 0), 0);
        x = told("q000;q011;ww063;");
        due("none", x.two(0, 0, 0), -9);
        due("none", x.two(0, 1, 1), -9);
        x.asks(0, 0);
        due("of those that fit now", x.two(0, 0, 0), 1);
        // the second is asked as the second: he forgets, and all is as the first one's
        x = told("q201;q022;wf163;");
        due("a forgetful one", x.two(0, 0, 0), 0);
        due("a forgetful one", x.two(0, 1, 0), 10);
        x.asks(0, 0);
        x.empties();
        due("he forgets the first", x.two(0, 0, 0), 1);
        due("asked", x.count(4), 1);
        due("two(1, 0, 0)", x.two(1, 0, 0), -1);
        due("two(-1, 0, 0)", x.two(-1, 0, 0), -1);
        due("two(0, 2, 0)", x.two(0, 2, 0), -1);
        due("two(0, -1, 0)", x.two(0, -1, 0), -1);
        due("two(0, 0, 2)", x.two(0, 0, 2), -1);
        due("two(0, 0, -1)", x.two(0, 0, -1), -1);
        due("refusals", refusals(x), 600000);
    }

    private static void draws() {
        CHECK.about("promise 30");
        JuryHearsAnswers x = told("f0;q000;q011;ww003;");
        for (int n = 0; n <= 4; n++) {
            fraction("n " + n, x.drawn(0, n, 0, 0), x.drawn(0, n, 0, 1),
                    (1 << n) - 1, 1 << n);
        }
        fraction("one nobody asks", x.drawn(0, 4, 5, 0), x.drawn(0, 4, 5, 1), 0, 1);
        x.asks(0, 0);
        fraction("it is sure now", x.drawn(0, 2, 0, 0), x.drawn(0, 2, 0, 1), 1, 1);
        x = told("f0;q000;q011;q022;ww063;a00;");
        fraction("the judge knows what was asked", x.drawn(0, 1, 0, 0), x.drawn(0, 1, 0, 1), 1, 1);
        x = told("q000;q011;q022;ww063;");
        fraction("two of three", x.drawn(0, 2, 0, 0), x.drawn(0, 2, 0, 1), 5, 9);
        x = told("q000;q011;q022;q100;ww063;");
        fraction("in least terms", x.drawn(0, 1, 0, 0), x.drawn(0, 1, 0, 1), 1, 2);
        x = told("q000;q011;wf163;");
        fraction("who forgets the second", x.drawn(0, 2, 0, 0), x.drawn(0, 2, 0, 1), 1, 2);
        fraction("and answers the third", x.drawn(0, 3, 0, 0), x.drawn(0, 3, 0, 1), 3, 4);
        due("asked", x.count(4), 0);
        due("drawn(1, -1, 0, 5)", x.drawn(1, -1, 0, 5), REFUSAL + 1);
        due("drawn(0, 5, 6, 0)", x.drawn(0, 5, 6, 0), REFUSAL + 1);
        due("drawn(0, 0, -1, 0)", x.drawn(0, 0, -1, 0), REFUSAL + 1);
        due("drawn(0, -1, 0, 5)", x.drawn(0, -1, 0, 5), REFUSAL + 4);
        due("drawn(0, 5, 0, 5)", x.drawn(0, 5, 0, 5), REFUSAL + 6);
        due("drawn(0, 4, 0, 2)", x.drawn(0, 4, 0, 2), REFUSAL + 2);
        due("refusals", refusals(x), 310101);
        x = told("ww063;");
        due("drawn(0, 0, 0, 2)", x.drawn(0, 0, 0, 2), REFUSAL + 2);
        due("no questions", x.drawn(0, 0, 0, 0), REFUSAL + 3);
        due("refusals", refusals(x), 11000);
    }

    private static void means() {
        CHECK.about("promise 31");
        JuryHearsAnswers x = told("f0;q000;q301;ww063;");
        fraction("at first", x.mean(0), x.mean(1), 3, 1);
        x.asks(0, 1);
        fraction("0 or 1", x.mean(0), x.mean(1), 10, 3);
        x.asks(0, 0);
        fraction("0", x.mean(0), x.mean(1), 7, 2);
        x = told("q301;q323;q345;ww063;a00;a01;a02;");
        fraction("none is so", x.mean(0), x.mean(1), 0, 1);
        due("mean(2)", x.mean(2), REFUSAL + 2);
        due("mean(-1)", x.mean(-1), REFUSAL + 2);
        due("refusals", refusals(x), 20000);
    }

    private static void isKinds(JuryHearsAnswers x, int kinds, int known, int... numbers) {
        row(x, numbers);
        due("kinds", x.whatIs(0, 0), kinds);
        due("knows", x.whatIs(0, 1), known);
        due("the row stays", x.count(6), numbers.length);
    }

    private static void whatOneIs() {
        CHECK.about("promise 32");
        JuryHearsAnswers x = told(FIVE + "ww103;");
        isKinds(x, 63, 64);
        isKinds(x, 9, 16, 1, 1, 0);
        isKinds(x, 2, 0, 0, 0, 1);
        isKinds(x, 4, 0, 1, 1, 2);
        isKinds(x, 16, 0, 1, 0, 2);
        isKinds(x, 32, 0, 1, 1, 1, 1, 1);
        isKinds(x, 0, 32, 2);
        isKinds(x, 0, 0, 3);
        isKinds(x, 0, 0, 1, 99);
        isKinds(x, 9, 8, 1, 1, 0, 2, 2);
        x.asks(0, 0);
        isKinds(x, 8, 16, 2, 2, 2, 2, 2);
        x.turn(0, 3, 1);
        isKinds(x, 8, 64, 2, 2, 2, 2, 2);
        due("the witness is as he was", 10 * x.witness(0, 0) + x.witness(0, 1), 31);
        due("his knows too", x.witness(0, 2), 3);
        row(x, 1, 1, 0, 2, 2, 1);
        due("whatIs(1, 2)", x.whatIs(1, 2), -1);
        due("whatIs(-1, 0)", x.whatIs(-1, 0), -1);
        due("whatIs(0, 2)", x.whatIs(0, 2), -2);
        due("whatIs(0, -1)", x.whatIs(0, -1), -2);
        due("more than questions", x.whatIs(0, 0), -3);
        due("refusals", refusals(x), 221000);
    }

    private static void rows() {
        CHECK.about("promises 33, 34, 35");
        JuryHearsAnswers x = told("f0;q000;q011;ww001;a00;a01;");
        due("row(99)", x.row(99), 1);
        due("row(0)", x.row(0), 2);
        due("row(-1)", x.row(-1), -4);
        due("row(100)", x.row(100), -6);
        due("clear()", x.clear(), 2);
        due("clear()", x.clear(), 0);
        for (int i = 1; i <= 12; i++) {
            due("row(1)", x.row(1), i);
        }
        due("no room", x.row(1), -6);
        due("below, with no room", x.row(-1), -4);
        due("refusals", refusals(x), 202);
        due("judge()", x.judge(), 1);
        due("the row has none then", x.count(6), 0);
        due("judge() of none", x.judge(), -9);
        row(x, 1, 2);
        due("all of it", x.judge(), -9);
        due("none then", x.count(6), 0);
        row(x, 1);
        due("a part of it", x.judge(), -9);
        row(x, 1, 2, 2);
        due("beyond them", x.judge(), 2);
        row(x, 0, 2);
        due("the first", x.judge(), 0);
        due("refusals", refusals(x), 202);
    }

    private static void lots() {
        CHECK.about("promise 36");
        JuryHearsAnswers x = told("f0;q000;ww063;");
        due("lots(1, 5, 0)", x.lots(1, 5, 0), 6);
        due("lots(20, -5, 0)", x.lots(20, -5, 0), 120);
        due("lots(20, -5, 1)", x.lots(20, -5, 1), 640);
        x.turn(0, 1, 0);
        due("a liar", x.lots(20, 5, 0), 0);
        due("a liar", x.lots(20, 5, 1), 640);
        x.turn(0, 3, 1);
        due("who forgets each second", x.lots(3, 5, 0), 9);
        due("each from now", x.lots(3, 5, 1), 96);
        x.turn(0, 5, 0);
        due("a clerk tells nothing", x.lots(2, 0, 1), 128);
        due("nothing is asked", x.count(4) + x.count(3), 0);
        lotsDrawn();
        // of 12 that were heard the first six are dropped in a session, and with them the clash
        x = told("f0;q000;wl063;a00;a00;a00;a00;a00;a00;");
        x.turn(0, 0, 0);
        tell(x, "a00;a00;a00;a00;a00;a00;");
        due("fits(0)", x.fits(0), 0);
        due("lots(1, 3, 1)", x.lots(1, 3, 1), 32);
        due("heard", x.heard(0, 2), 0);
        due("lots(0, 0, 9)", x.lots(0, 0, 9), -4);
        due("lots(21, 0, 9)", x.lots(21, 0, 9), -6);
        due("lots(1, 0, 2)", x.lots(1, 0, 2), -2);
        due("lots(1, 0, -1)", x.lots(1, 0, -1), -2);
        due("refusals", refusals(x), 20101);
        due("no witnesses", told("q000;").lots(1, 0, 0), -3);
        due("no questions", told("ww000;").lots(1, 0, 0), -3);
        due("neither, and another what", new JuryHearsAnswers().lots(1, 0, 2), -2);
    }

    /** Draws by the document's own words, of three witnesses and five questions. */
    private static void lotsDrawn() {
        JuryHearsAnswers x = told("f0;q000;q011;q000;q022;q300;ww063;wl063;wb063;");
        int[] seeds = {0, 1, 7, -1, 123456789, Integer.MIN_VALUE, Integer.MAX_VALUE};
        boolean[] so = {true, false, true, false, true};
        for (int seed : seeds) {
            int z = seed;
            int yes = 0;
            for (int i = 0; i < 20 * 6; i++) {
                z = z * 1664525 + 1013904223;
                int witness = ((z & 0x7fffffff) / 256) % 3;
                z = z * 1664525 + 1013904223;
                int question = ((z & 0x7fffffff) / 256) % 5;
                yes += so[question] == (witness != 1) ? 1 : 0;
            }
            due("lots(20, " + seed + ", 0)", x.lots(20, seed, 0), yes);
        }
    }

    private static void images() {
        CHECK.about("promises 37, 38");
        JuryHearsAnswers x = told("f0;q000;q011;ww063;wl105;a00;");
        due("none yet", x.on(), -3);
        due("image()", x.image(), 1);
        tell(x, "f0;f4;q055;wb763;a01;a11;");
        x.knows(0, 1);
        x.turn(1, 4, 8);
        x.row(7);
        x.letter('f');
        x.fact(9);
        due("asked", x.count(4), 3);
        due("on()", x.on(), 1);
        due("questions", x.count(0), 2);
        due("witnesses", x.count(1), 2);
        due("the case", x.count(2), 1);
        due("heard", x.count(3), 1);
        due("heard", x.heard(0, 2), 1);
        due("asked", x.count(4), 1);
        due("knows", x.witness(0, 2), 63);
        due("turned", 10 * x.witness(1, 0) + x.witness(1, 1), 11);
        due("the row is not of it", x.count(6), 1);
        due("nor letters", x.count(7), 1);
        due("nor refusals", refusals(x), 101000);
        due("fits(0)", x.fits(0), 32);
        x.court();
        tell(x, "q300;");
        due("another question", x.question(2, 0), 3);
        x.sets(9);
        x.asks(0, 0);
        due("on() again", x.on(), 1);
        due("the case", x.count(2), 1);
        x.sets(9);
        x.asks(0, 0);
        due("another image", x.image(), 2);
        x.empties();
        due("on()", x.on(), 2);
        due("heard", x.count(3), 2);
        due("the case", x.count(2), 9);
    }

    private static void counts() {
        CHECK.about("promise 39");
        JuryHearsAnswers x = told(FIVE + "ww003;wl003;a00;a11;a01;n;a00;");
        x.row(4);
        x.row(5);
        x.letter('n');
        int[] want = {5, 2, 1, 1, 4, 0b11011, 2, 1};
        for (int what = 0; what < 8; what++) {
            due("count(" + what + ")", x.count(what), want[what]);
        }
        x.fact(6);
        x.fact(6);
        x.verdict(6, 0);
        x.fits(2);
        x.mean(2);
        x.on();
        x.sets(-1);
        x.sets(-1);
        x.drawn(0, -1, 0, 0);
        x.sets(-1);
        x.row(100);
        x.row(100);
        x.row(100);
        x.lots(21, 0, 0);
        x.drawn(0, 5, 0, 0);
        int[] refused = {3, 2, 1, 4, 0, 5};
        for (int what = 11; what <= 16; what++) {
            due("count(" + what + ")", x.count(what), refused[what - 11]);
        }
        int[] others = {-1, 8, 9, 10, 17, 100, Integer.MIN_VALUE, Integer.MAX_VALUE};
        for (int what : others) {
            due("count(" + what + ")", x.count(what), -9);
        }
        due("-9 is none of them", refusals(x), 321405);
    }
}
