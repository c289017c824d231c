/**
 * Each sentence of the document that names a boundary case, told by its words, with a run of calls
 * on a new object: just inside the bound, just outside it, empty, full, come round. A line is a
 * call and the answer that is due; one without an answer prepares, and must not be refused.
 */
public final class BoundariesTest {
    private static final Check CHECK = new Check();
    private static final String EIGHT = "tell q000;q011;q022;q033;q044;q055;q100;q111;";
    private static final String FIVE = "tell ww063;wl063;wb063;wf163;wr063;";

    public static void main(String[] args) {
        factsAndCases();
        questionsAndWitnesses();
        heardAndAsked();
        letters();
        statements();
        placesOfBrokenTexts();
        statementsNotAsTheyMustBe();
        faultsLeaveAll();
        so();
        kinds();
        forgetful();
        rather();
        dropping();
        answers();
        fits();
        jury();
        sure();
        next();
        settle();
        settleByTime();
        words();
        liars();
        clash();
        trueAndTalker();
        betrays();
        verdictAndMean();
        hidden();
        sameAndImplies();
        two();
        drawn();
        whatIs();
        rows();
        lots();
        images();
        counts();
        CHECK.close();
    }

    // ---- helpers

    private static void run(String sentence, String... lines) {
        CHECK.about(sentence);
        Calls calls = new Calls();
        for (String line : lines) {
            int at = line.indexOf(" = ");
            if (at >= 0) {
                String words = line.substring(0, at);
                CHECK.due(words, calls.make(words), Long.parseLong(line.substring(at + 3)));
            } else {
                CHECK.that(line + " is not refused", calls.make(line) >= 0);
            }
        }
        CHECK.that("it takes 512 calls at most", calls.made() <= Calls.MOST);
    }

    private static String times(int n, String text) {
        return text.repeat(n);
    }

    // ---- FACTS, QUESTIONS, WITNESSES, HEARD, ASKED

    private static void factsAndCases() {
        run("A new object: CASE 0, no QUESTIONS, no WITNESSES",
                "count 0 = 0", "count 1 = 0", "count 2 = 0", "count 3 = 0", "count 4 = 0",
                "count 5 = 0", "count 6 = 0", "count 7 = 0", "question 0 0 = -1",
                "witness 0 0 = -1", "heard 0 0 = -1", "count 11 = 3", "on = -3");
        run("FACTS 0 .. 5, each so or not",
                "fact -1 = -1", "fact 0 = 0", "fact 5 = 0", "fact 6 = -1", "sets 33 = 0",
                "fact 0 = 1", "fact 1 = 0", "fact 4 = 0", "fact 5 = 1", "sets 30 = 33",
                "fact 0 = 0", "fact 1 = 1", "fact 4 = 1", "fact 5 = 0");
        run("a CASE: bits 0 .. 63; 0 at first",
                "count 2 = 0", "sets 63 = 0", "count 2 = 63", "sets 64 = -6", "sets -1 = -4",
                "count 2 = 63", "sets 0 = 63", "sets 0 = 0", "count 2 = 0");
    }

    private static void questionsAndWitnesses() {
        run("QUESTIONS 0 .. as they come (8 at most)",
                "question 0 0 = -1", "tell q100; = 1", "question 0 0 = 1", "question 1 0 = -1",
                "tell q000;q000;q000;q000;q000;q000; = 6", "question 6 0 = 0",
                "question 7 0 = -1", "tell q435; = 1", "question 7 0 = 4", "question 7 1 = 3",
                "question 7 2 = 5", "question 8 0 = -1", "tell q000; = -2000", "count 0 = 8",
                "question 7 0 = 4");
        run("a FORM (0 .. 4)",
                "tell q000;q400; = 2", "question 0 0 = 0", "question 1 0 = 4",
                "tell q500; = -2000", "tell q900; = -2000", "count 0 = 2");
        run("two FACTS (may be one)",
                "tell q200;q255;q405;q450; = 4", "question 0 1 = 0", "question 0 2 = 0",
                "question 1 1 = 5", "question 1 2 = 5", "question 2 1 = 0", "question 2 2 = 5",
                "question 3 1 = 5", "question 3 2 = 0", "tell q260; = -2000",
                "tell q206; = -2000", "tell q060; = -2000", "tell q006; = -2000",
                "tell q106; = -2000", "count 0 = 4");
        run("WITNESSES 0 .. as they come (5 at most)",
                "witness 0 0 = -1", "tell wl000; = 1", "witness 0 0 = 1", "witness 1 0 = -1",
                "tell ww000;ww000;ww000; = 3", "witness 3 0 = 0", "witness 4 0 = -1",
                "tell wc963; = 1", "witness 4 0 = 5", "witness 4 1 = 9", "witness 4 2 = 63",
                "witness 5 0 = -1", "tell ww000; = -2000", "count 1 = 5");
        run("KIND, FIGURE (0 .. 9)",
                "tell ww000;wc900; = 2", "witness 0 0 = 0", "witness 0 1 = 0",
                "witness 1 0 = 5", "witness 1 1 = 9", "turn 0 5 9 = 0", "turn 0 0 0 = 59",
                "turn 0 6 0 = -2", "turn 0 -1 0 = -2", "turn 0 0 10 = -6", "turn 0 0 -1 = -4",
                "witness 0 0 = 0", "witness 0 1 = 0");
        run("KNOWS (FACTS, bits 0 .. 63)",
                "tell ww000;ww063; = 2", "witness 0 2 = 0", "witness 1 2 = 63",
                "tell ww064; = -2000", "tell ww099; = -2000", "count 1 = 2", "knows 0 63 = 0",
                "knows 0 64 = -6", "knows 0 -1 = -4", "witness 0 2 = 63", "knows 0 0 = 63",
                "witness 0 2 = 0");
    }

    private static void heardAndAsked() {
        run("HEARD: what was asked so far (12 at most)",
                "tell f0;q000;q100;ww063; = 4", "heard 0 0 = -1", "empties = 0", "asks 0 1 = 0",
                "heard 0 1 = 1", "heard 1 0 = -1", "11* asks 0 0 = 1", "count 3 = 12",
                "heard 0 1 = 1", "heard 0 3 = 1", "heard 11 3 = 12", "heard 12 0 = -1",
                "asks 0 1 = 0", "count 3 = 12", "heard 0 1 = 0", "heard 0 3 = 2",
                "heard 11 1 = 1", "heard 11 2 = 0", "heard 11 3 = 13", "heard 12 0 = -1",
                "empties = 12", "empties = 0", "heard 0 0 = -1", "count 4 = 13");
        run("an ANSWER (0 no, 1 yes, 2 nothing)",
                "tell f0;q000;q100;q011;ww001;wl001; = 6", "asks 0 0 = 1", "asks 0 1 = 0",
                "asks 0 2 = 2", "asks 1 0 = 0", "asks 1 1 = 1", "asks 1 2 = 2",
                "heard 0 2 = 1", "heard 1 2 = 0", "heard 2 2 = 2", "heard 3 2 = 0",
                "heard 4 2 = 1", "heard 5 2 = 2");
        run("ASKED: how many were asked in all (0 .. 999; 0 at first)",
                "count 4 = 0", "tell q000;ww063; = 2", "count 4 = 0", "asks 0 0 = 0",
                "count 4 = 1", "empties = 1", "count 4 = 1", "tell n; = 1", "count 4 = 1",
                "tell " + times(24, "a00;") + " = 24", "count 4 = 25",
                "tell " + times(24, "a00;") + " = 24",
                "tell " + times(24, "a00;") + " = 24",
                "tell " + times(24, "a00;") + " = 24", "count 4 = 97", "heard 11 3 = 97",
                "heard 0 3 = 86", "image = 97");
    }

    // ---- the letters of a COURT

    private static void letters() {
        run("A letter (0 .. 255) comes: how many there are. -4; -6 (255)",
                "letter 0 = 1", "letter 255 = 2", "letter 256 = -6", "letter -1 = -4",
                "letter 2147483647 = -6", "letter -2147483648 = -4", "count 7 = 2",
                "count 14 = 2", "count 16 = 2", "court = -1000");
        run("letters, one by one (96 at most); -6 (96, too)",
                "count 7 = 0", "95* letter 102 = 95", "letter 59 = 96", "letter 59 = -6",
                "letter 0 = -6", "letter 256 = -6", "letter -1 = -4", "count 7 = 96",
                "count 16 = 3", "count 14 = 1", "court = -1001", "count 7 = 0",
                "letter 110 = 1");
        run("The letters become a COURT, and are no more (with a FAULT neither)",
                "tell n; = 1", "count 7 = 0", "court = -1000", "tell x = -1000", "count 7 = 0",
                "tell f6; = -2000", "count 7 = 0", "court = -1000", "tell f0; = 1",
                "count 2 = 1");
        run("96 letters are 32 STATEMENTS of three, 24 of four",
                "tell " + times(32, "f3;") + " = 32", "count 2 = 0",
                "tell " + times(31, "f3;") + " = 31", "count 2 = 8",
                "tell q000;ww063; = 2", "tell " + times(24, "a00;") + " = 24", "count 4 = 24",
                "tell " + times(48, "n;") + " = 48", "count 3 = 0");
        run("the last of 96 letters",
                "tell " + times(31, "f3;") + "f3f = -1095", "count 2 = 0",
                "tell " + times(31, "f3;") + "q33 = -1096", "count 2 = 0",
                "tell " + times(31, "f3;") + "f6; = -2093", "count 2 = 0");
    }

    private static void statements() {
        run("\"f\" a FACT (a digit): so, or, told again, not",
                "tell f0; = 1", "count 2 = 1", "tell f0; = 1", "count 2 = 0",
                "tell f5;f5;f5; = 3", "count 2 = 32", "tell f0;f5;f0;f5; = 4", "count 2 = 32");
        run("\"k\" a WITNESS, a FACT: he KNOWS it, or, told again, not",
                "tell ww000;ww000; = 2", "tell k00; = 1", "witness 0 2 = 1", "tell k00; = 1",
                "witness 0 2 = 0", "tell k15;k15;k15; = 3", "witness 1 2 = 32",
                "witness 0 2 = 0");
        run("\"a\" a WITNESS, a QUESTION: it is ASKED",
                EIGHT + " = 8", FIVE + " = 5", "tell a00;a47; = 2", "count 4 = 2",
                "heard 0 0 = 0", "heard 0 1 = 0", "heard 1 0 = 4", "heard 1 1 = 7");
        run("\"n\" nothing more: HEARD is empty then",
                "tell n; = 1", "count 3 = 0", "tell q000;ww063;a00;n; = 4", "count 3 = 0",
                "12* asks 0 0", "count 3 = 12", "tell n; = 1", "count 3 = 0", "count 4 = 13",
                "asks 0 0", "tell n;a00;a00; = 3", "count 3 = 2");
        run("At least one STATEMENT", "court = -1000", "count 7 = 0", "tell n; = 1");
    }

    /** What each place of a statement may be: a digit, a letter of a kind, or just this sign. */
    private static final String[] SHAPES = {"f9;", "q999;", "ww999;", "k99;", "a99;", "n;"};

    private static boolean canStand(String shape, int place, char sign) {
        if (place == 0) {
            return "fqwkan".indexOf(sign) >= 0;
        }
        if (shape.charAt(place) == '9') {
            return "0123456789".indexOf(sign) >= 0;
        }
        return shape.charAt(place) == ';' ? sign == ';' : "wlbfrc".indexOf(sign) >= 0;
    }

    private static void placesOfBrokenTexts() {
        CHECK.about("the place of the first letter with which no COURT can go on");
        for (String shape : SHAPES) {
            for (int place = 0; place < shape.length(); place++) {
                String ahead = shape.substring(0, place).replace('9', '0');
                faultOf(ahead, place);
                faultOf("n;f6;" + ahead, 5 + place);
                for (char sign = 0; sign < 256; sign++) {
                    if (!canStand(shape, place, sign)) {
                        faultOf(ahead + sign, place);
                        faultOf("f0;" + ahead + sign + shape, 3 + place);
                    }
                }
            }
        }
    }

    /** A text that is whole up to its end, as one behind which nothing lacks. */
    private static void faultOf(String text, int place) {
        if (text.endsWith(";") && place == text.length()) {
            return;
        }
        CHECK.due("court() of \"" + text + "\"", new Calls().make("tell " + text), -1000 - place);
    }

    private static void statementsNotAsTheyMustBe() {
        run("kind 1, else kind 2",
                "tell f6;x = -1003", "tell f6;f = -1004", "tell f6;f0; = -2000",
                "tell f0;f6;f7; = -2003", "count 2 = 0");
        run("the place of the first letter of the first STATEMENT that, behind all ahead of it",
                "tell n;n;f0;f9;f9; = -2007", "tell ww000;k00;k10; = -2010",
                "tell q000;ww000;a00;a01; = -2015", "tell ww000;a00;q000; = -2006",
                "tell k00;ww000; = -2000", "tell a00;q000;ww000; = -2000");
        run("a number out of range",
                "tell f5; = 1", "tell f6; = -2000", "tell q455; = 1", "tell q555; = -2000",
                "tell q465; = -2000", "tell q456; = -2000", "tell ww963; = 1",
                "tell ww964; = -2000", "tell k05; = 1", "tell k06; = -2000", "count 0 = 1",
                "count 1 = 1", "count 2 = 32", "witness 0 2 = 31");
        run("no such WITNESS, QUESTION so far",
                "tell q000;ww000; = 2", "tell k00;a00; = 2", "tell k10; = -2000",
                "tell k90; = -2000", "tell a10; = -2000", "tell a01; = -2000",
                "tell a99; = -2000", "tell a01;q000; = -2000", "tell q000;a01; = 2",
                "tell a10;ww000; = -2000", "tell ww000;a10;k10; = 3", "count 4 = 3");
        run("no room for more: QUESTIONS",
                "tell " + times(9, "q000;") + " = -2040", "count 0 = 0",
                "tell " + times(8, "q000;") + " = 8", "tell n;q000; = -2002", "count 0 = 8");
        run("no room for more: WITNESSES",
                "tell " + times(6, "ww000;") + " = -2030", "count 1 = 0",
                "tell " + times(5, "ww000;") + " = 5", "tell n;ww000; = -2002", "count 1 = 5");
    }

    private static void faultsLeaveAll() {
        CHECK.about("Without FAULT all of it comes, with one nothing (nothing is counted)");
        String[] texts = {
            "f0;q000;wl700;k00;a00;n;a11;f6;", "f1;q111;k13;a10;a20;k33;", "n;a99;",
            "f0;q000;wl700;k00;a00;n;x", "n;n", ""
        };
        for (String text : texts) {
            Calls calls = new Calls();
            calls.make("tell f2;q000;q022;ww463;wl200;a01;a10;");
            calls.make("row 1");
            calls.make("image");
            calls.make("asks 0 0");
            String before = calls.state();
            CHECK.that("a fault of " + text, calls.make("tell " + text) <= -1000);
            CHECK.that("all is as it was behind " + text, calls.state().equals(before));
            for (long many : calls.refusals()) {
                CHECK.due("refusals behind " + text, many, 0);
            }
            CHECK.due("the image is as it was behind " + text, calls.make("on"), 2);
        }
    }

    // ---- SO, KINDS

    private static void so() {
        run("FORM 0 the first FACT is so; 1 it is not; 2 both are; 3 one or both are; 4 alike",
                "tell q005;q105;q205;q305;q405; = 5", "count 5 = 18", "sets 1 = 0",
                "count 5 = 9", "sets 32 = 1", "count 5 = 10", "sets 33 = 32", "count 5 = 29",
                "sets 30 = 33", "count 5 = 18");
        run("by a FORM of one FACT alone",
                "tell q233;q333;q433; = 3", "count 5 = 4", "sets 8 = 0", "count 5 = 7",
                "question 0 3 = 1", "sets 55 = 8", "count 5 = 4", "question 0 3 = 0",
                "question 2 3 = 1");
        run("A WITNESS KNOWS a QUESTION, if he KNOWS its FACTS (FORMS 0, 1: the first alone)",
                "tell q005;q105;q205;q305;q405;ww031; = 6", "words 0 2 = 3", "answer 0 0 -1 = 0",
                "answer 0 1 -1 = 1", "knows 0 32 = 31", "words 0 2 = 5", "knows 0 33 = 32",
                "words 0 2 = 0", "knows 0 0 = 33", "words 0 2 = 5", "knows 0 62 = 0",
                "words 0 2 = 5");
    }

    private static void kinds() {
        String court = "tell f0;q000;q100;q011;ww001; = 5";
        run("w WITNESS: yes, if it is SO, else no; if not, nothing", court,
                "answer 0 0 -1 = 1", "answer 0 1 -1 = 0", "answer 0 2 -1 = 2");
        run("l LIAR: yes for no, no for yes", court, "turn 0 1 0 = 0",
                "answer 0 0 -1 = 0", "answer 0 1 -1 = 1", "answer 0 2 -1 = 2");
        run("b BRIEF: nothing for no", court, "turn 0 2 0 = 0",
                "answer 0 0 -1 = 1", "answer 0 1 -1 = 2", "answer 0 2 -1 = 2");
        run("f FORGETFUL: else as a WITNESS", court, "turn 0 3 9 = 0",
                "answer 0 0 -1 = 1", "answer 0 1 -1 = 0", "answer 0 2 -1 = 2");
        run("r RATHER: as a WITNESS to the next QUESTION", court, "turn 0 4 0 = 0",
                "answer 0 0 -1 = 0", "answer 0 1 -1 = 2", "answer 0 2 -1 = 1");
        run("c CLERK: yes, if a BRIEF one would say nothing, else as a BRIEF one", court,
                "turn 0 5 0 = 0", "answer 0 0 -1 = 1", "answer 0 1 -1 = 1",
                "answer 0 2 -1 = 1", "answer 0 0 0 = 1");
    }

    private static void forgetful() {
        run("FIGURE and 1 divide ASKED: FIGURE 0, each time",
                "tell f0;q000;wf063; = 3", "asks 0 0 = 2", "asks 0 0 = 2", "asks 0 0 = 2",
                "answer 0 0 -1 = 2");
        run("FIGURE and 1 divide ASKED: FIGURE 2, each third time",
                "tell f0;q000;wf263; = 3", "asks 0 0 = 1", "asks 0 0 = 1", "asks 0 0 = 2",
                "asks 0 0 = 1", "answer 0 0 -1 = 1", "asks 0 0 = 1", "answer 0 0 -1 = 2",
                "asks 0 0 = 2", "answer 0 0 -1 = 1");
        run("FIGURE and 1 divide ASKED: FIGURE 9, each tenth time",
                "tell f0;q000;wf963; = 3", "8* asks 0 0 = 1", "asks 0 0 = 1", "asks 0 0 = 2",
                "asks 0 0 = 1", "8* asks 0 0 = 1", "asks 0 0 = 2", "count 4 = 20");
        run("FIGURE is of no weight to another KIND",
                "tell f0;q000;ww063;wl063;wb063;wr063;wc063; = 7", "answer 0 0 -1 = 1",
                "answer 1 0 -1 = 0", "answer 2 0 -1 = 1", "answer 3 0 -1 = 1",
                "answer 4 0 -1 = 1");
        run("ASKED is of all, not of one WITNESS",
                "tell f0;q000;wf163;ww063; = 4", "asks 1 0 = 1", "asks 0 0 = 2", "asks 1 0 = 1",
                "asks 1 0 = 1", "asks 0 0 = 1");
    }

    private static void rather() {
        run("to the next QUESTION (behind the last the first)",
                EIGHT + " = 8", "tell f0;f5;wr063; = 3",
                "answer 0 4 -1 = 1", "answer 0 5 -1 = 0", "answer 0 6 -1 = 1",
                "answer 0 7 -1 = 1", "sets 62 = 33", "answer 0 7 -1 = 0", "answer 0 6 -1 = 0");
        run("the next of one QUESTION is itself",
                "tell q000;wr063; = 2", "answer 0 0 -1 = 0", "answer 0 0 1 = 1");
        run("behind the last another comes",
                "tell f1;q000;q033;wr063; = 4", "answer 0 1 -1 = 0", "tell q011; = 1",
                "answer 0 1 -1 = 1", "answer 0 2 -1 = 0");
        run("KNOWS of the next QUESTION",
                "tell q000;q055;wr001; = 3", "answer 0 0 -1 = 2", "answer 0 1 -1 = 0",
                "knows 0 32 = 1", "answer 0 0 -1 = 0", "answer 0 1 -1 = 2");
    }

    private static void dropping() {
        run("ASKED is 1 more; then his ANSWER (by that) is HEARD",
                "tell q000;wf163; = 2", "asks 0 0 = 0", "heard 0 3 = 1", "asks 0 0 = 2",
                "heard 1 3 = 2", "asks 0 0 = 0", "count 4 = 3");
        run("of 12 there are the first is dropped",
                "tell f0;q000;q011;ww063; = 4", "asks 0 0 = 1", "11* asks 0 1 = 0",
                "fits 0 = 16", "asks 0 1 = 0", "fits 0 = 32", "sure 0 = 2", "count 3 = 12",
                "sets 2 = 1", "asks 0 1 = 1", "fits 0 = 0", "11* asks 0 1 = 1", "fits 0 = 32",
                "fits 1 = 2");
        run("of 12 there are, a letter's, the first is dropped",
                "tell f0;q000;q011;ww063;a00;" + times(11, "a01;") + " = 16", "fits 0 = 16",
                "tell a01; = 1", "fits 0 = 32", "heard 0 1 = 1", "heard 0 3 = 2");
    }

    // ---- ANSWER, FITS, JURY, SURE, NEXT

    private static void answers() {
        run("ANSWER by a CASE (-1: as it is). -4 below -1; -6 63",
                "tell f0;q000;q055;ww063; = 4", "answer 0 0 -2 = -4", "answer 0 0 -1 = 1",
                "answer 0 0 0 = 0", "answer 0 1 63 = 1", "answer 0 1 31 = 0",
                "answer 0 1 64 = -6", "count 2 = 1", "count 3 = 0", "count 4 = 0");
        run("ANSWER were it ASKED next",
                "tell q000;wf063; = 2", "answer 0 0 0 = 2", "turn 0 3 1 = 30",
                "answer 0 0 0 = 0", "asks 0 0 = 0", "answer 0 0 0 = 2", "answer 0 0 1 = 2");
    }

    private static void fits() {
        run("FITS: all of 0 .. 63, if nothing is HEARD", "fits 0 = 64", "fits 1 = 0",
                "jury 0 = 64", "jury 1 = 0", "tell q000;wl000; = 2", "fits 0 = 64",
                "jury 0 = 64");
        String six = "tell q000;q011;q022;q033;q044;q055;ww063; = 7";
        String ask = "tell a00;a01;a02;a03;a04;a05; = 6";
        run("FITS: the least, 63", six, "sets 63 = 0", ask, "fits 0 = 1", "fits 1 = 63",
                "sure 0 = 63", "mean 0 = 6", "mean 1 = 1", "next 0 = 0", "next 1 = 1");
        run("FITS: the least, 0", six, ask, "fits 0 = 1", "fits 1 = 0", "sure 0 = 63",
                "mean 0 = 0", "mean 1 = 1");
        run("FITS: the least of two", six, "sets 32 = 0", "tell a00;a01;a02;a03;a04; = 5",
                "fits 0 = 2", "fits 1 = 0", "sure 0 = 31", "tell n;a05; = 2", "fits 0 = 32",
                "fits 1 = 32");
        run("FITS: -9 of none", "tell q000;ww063;a00;f0;a00; = 5", "fits 0 = 0", "fits 1 = -9",
                "empties = 2", "fits 0 = 64", "fits 1 = 0");
        run("FITS: each by ASKED as it was then",
                "tell q000;wf263;a00;a00;a00; = 5", "fits 0 = 32", "heard 1 2 = 0",
                "heard 2 2 = 2", "turn 0 3 1 = 32", "fits 0 = 0", "turn 0 3 2 = 31",
                "fits 0 = 32");
    }

    private static void jury() {
        run("JURY: some QUESTION to which he would say that",
                EIGHT + " = 8", "tell ww063; = 1", "asks 0 6 = 1", "jury 0 = 64", "fits 0 = 32",
                "tell n; = 1", "asks 0 0 = 0", "jury 0 = 64", "fits 0 = 32");
        run("JURY: the least, 63",
                "tell f0;f1;f2;f3;f4;f5;q000;q011;q022;q033;q044;q055;ww063; = 13",
                "tell a00;a01;a02;a03;a04;a05; = 6", "jury 0 = 63", "jury 1 = 1", "fits 0 = 1",
                "turn 0 2 0 = 0", "jury 0 = 63", "tell n; = 1", "jury 0 = 64");
        run("JURY: one QUESTION alone is no riddle",
                "tell f5;q055;ww063;a00; = 4", "jury 0 = 32", "jury 1 = 32", "fits 0 = 32");
        run("JURY: -9 of none: nothing that nobody would say",
                "tell q000;q011;wf063;a00; = 4", "jury 0 = 64", "jury 1 = 0", "turn 0 0 0 = 30",
                "jury 0 = 0", "jury 1 = -9", "verdict 0 0 = 0", "verdict 0 1 = 1",
                "sure 1 = 0", "knows 0 1 = 63", "jury 0 = 64");
        run("JURY: by ASKED as it was",
                "tell q000;q011;wf263;a00;a00;a00; = 6", "jury 0 = 48", "jury 1 = 0",
                "turn 0 3 1 = 32", "jury 0 = 0", "turn 0 3 2 = 31", "jury 0 = 48");
        run("JURY: of 12 HEARD",
                "tell f0;q000;q011;ww063; = 4", "11* asks 0 0 = 1", "jury 0 = 48",
                "asks 0 1 = 0", "jury 0 = 32", "10* asks 0 1 = 0", "jury 0 = 32",
                "asks 0 1 = 0", "jury 0 = 48", "fits 0 = 32");
    }

    private static void sure() {
        run("SURE: alike in all CASES that FIT", "sure 0 = 0", "sure 1 = 0",
                "tell f5;q000;q055;ww063;a00;a01; = 6", "sure 0 = 33", "sure 1 = 0",
                "tell n;a01; = 2", "sure 0 = 32");
        run("SURE: in all of the JURY's",
                "tell f0;f5;q205;q250;ww063;a00; = 6", "sure 0 = 33", "sure 1 = 33");
        run("SURE (none fits: 0)", "tell q000;ww063;a00;f0;a00; = 5", "fits 0 = 0",
                "sure 0 = 0", "jury 0 = 0", "sure 1 = 0");
    }

    private static void next() {
        run("NEXT: -9 there are none", "next 0 = -9", "next 1 = -9", "tell q000; = 1",
                "next 0 = -9", "next 1 = -9", "tell ww000; = 1", "next 0 = 0", "next 1 = 64");
        run("NEXT: WITNESSES and no QUESTIONS", FIVE + " = 5", "next 0 = -9", "next 1 = -9");
        run("NEXT: the last WITNESS, the last QUESTION",
                "tell " + times(7, "q000;") + "q011; = 8", "tell ww000;ww000;ww000;ww000; = 4",
                "tell ww002; = 1", "next 0 = 47", "next 1 = 32", "knows 0 1 = 0",
                "next 0 = 0", "next 1 = 32");
        run("NEXT: of several the first by WITNESSES",
                "tell q011;q000;ww000;ww001;ww002; = 5", "next 0 = 11", "next 1 = 32",
                "knows 0 2 = 0", "next 0 = 0");
        run("NEXT: the ANSWER whatever it is, the worst",
                "tell q201;q322;q045;ww003;wb004;wc063; = 6", "next 0 = 11", "next 1 = 32",
                "knows 1 3 = 4", "next 0 = 0", "next 1 = 48");
        run("NEXT: of one CASE that FITS",
                "tell q000;q011;q022;q033;q044;q055;ww063; = 7",
                "tell a00;a01;a02;a03;a04; = 5", "next 0 = 5", "next 1 = 1", "asks 0 5 = 0",
                "next 0 = 0", "next 1 = 1");
        run("NEXT: by ASKED and 1",
                "tell q000;wf263;ww000;a10; = 4", "next 1 = 32", "asks 1 0 = 2", "next 1 = 64",
                "asks 1 0 = 2", "next 1 = 32");
        run("NEXT: of no CASE that FITS", "tell q000;ww063;a00;f0;a00; = 5", "next 0 = 0",
                "next 1 = 0");
    }

    // ---- SETTLE, WORDS

    private static void settle() {
        run("SETTLE: 0; the first -9 (0, too)", "tell q000;q055;ww063;a01; = 4",
                "settle 0 5 0 = 0", "settle 0 5 1 = -9", "settle 0 0 0 = 1",
                "settle 0 0 1 = 0");
        run("SETTLE: 1 .. 3, and no more",
                "tell q401;q412;q423;q434;q044;ww063; = 6", "settle 0 4 0 = 1",
                "settle 0 4 1 = 4", "settle 0 3 0 = 2", "settle 0 3 1 = 3", "settle 0 2 0 = 3",
                "settle 0 2 1 = 2", "settle 0 1 0 = -9", "settle 0 1 1 = -9",
                "settle 0 5 0 = -9", "settle 0 5 1 = -9", "asks 0 4 = 0", "settle 0 1 0 = 3",
                "settle 0 1 1 = 1", "settle 0 4 0 = 0");
        run("SETTLE: no QUESTIONS", "tell ww063; = 1", "settle 0 0 0 = -9",
                "settle 0 0 1 = -9");
        run("SETTLE: by QUESTIONS that there are, none that were", "tell q000;ww063; = 2",
                "image = 0", "tell q011; = 1", "settle 0 1 0 = 1", "drawn 0 4 1 0 = 15",
                "on = 0", "settle 0 1 0 = -9", "drawn 0 4 1 0 = 0", "same 0 = 0",
                "words 0 0 = 1");
        run("SETTLE: the last QUESTION", "tell " + times(7, "q000;") + "q055;ww063; = 9",
                "settle 0 5 0 = 1", "settle 0 5 1 = 7", "settle 0 0 1 = 0",
                "settle 0 4 0 = -9");
        run("SETTLE: the first one of the first such (by QUESTIONS)",
                "tell q011;q401;q000;q100;ww063; = 5", "settle 0 0 0 = 1", "settle 0 0 1 = 2",
                "knows 0 62 = 63", "settle 0 0 0 = -9", "knows 0 63 = 62", "settle 0 1 1 = 0");
        run("SETTLE: of one WITNESS, told",
                "tell q000;ww000;ww063; = 3", "settle 0 0 0 = -9", "settle 1 0 0 = 1",
                "settle 1 0 1 = 0");
        run("SETTLE: none fits, nothing is SURE",
                "tell q000;ww063;a00;f0;a00; = 5", "settle 0 0 0 = -9", "settle 0 0 1 = -9",
                "settle 0 5 0 = -9");
    }

    private static void settleByTime() {
        String ask = "asks 1 0 = 2";
        run("SETTLE: one may be ASKED again, by its ASKED",
                "tell q000;wf263;ww000; = 3", "settle 0 0 0 = 1", ask, "settle 0 0 0 = 1", ask,
                "settle 0 0 0 = 2", "settle 0 0 1 = 0", ask, "settle 0 0 0 = 1");
        run("SETTLE: each by its own ASKED",
                "tell q401;q011;wf263;ww000; = 4", "settle 0 0 0 = 2", "settle 0 0 1 = 0", ask,
                "settle 0 0 0 = 3", "settle 0 0 1 = 0", ask, "settle 0 0 0 = 3",
                "settle 0 0 1 = 0", "settle 0 1 0 = 2", ask, "settle 0 0 0 = 2");
        run("SETTLE: who always forgets", "tell q000;wf063; = 2", "settle 0 0 0 = -9",
                "settle 0 0 1 = -9");
        run("SETTLE: who forgets each second one",
                "tell q401;q011;wf163;ww000; = 4", "settle 0 0 0 = 3", "settle 0 0 1 = 0",
                "settle 0 1 0 = 1", "settle 0 1 1 = 1", ask, "settle 0 0 0 = -9",
                "settle 0 1 0 = 2", "settle 0 1 1 = 0");
        run("SETTLE: by the CASE as it is",
                "tell q301;ww003; = 2", "settle 0 0 0 = 1", "sets 1 = 0", "settle 0 0 0 = -9",
                "sets 3 = 1", "settle 0 0 0 = -9");
    }

    private static void words() {
        run("WORDS: of no QUESTIONS", "tell ww063; = 1", "words 0 0 = 0", "words 0 1 = 0",
                "words 0 2 = 0");
        run("WORDS: of eight", EIGHT + " = 8", FIVE + " = 5", "words 0 0 = 6", "words 0 1 = 2",
                "words 0 2 = 0", "words 1 0 = 2", "words 1 1 = 6", "words 2 2 = 6",
                "words 4 1 = 2", "turn 0 5 0 = 0", "words 0 1 = 8", "words 0 0 = 0",
                "knows 1 0 = 63", "words 1 2 = 8");
        run("WORDS: by ASKED and 1",
                "tell q000;q011;wf263;ww000; = 4", "words 0 2 = 0", "asks 1 0 = 2",
                "words 0 2 = 0", "words 0 0 = 2", "asks 1 0 = 2", "words 0 2 = 2",
                "words 0 0 = 0", "asks 1 0 = 2", "words 0 0 = 2");
    }

    // ---- LIARS, CLASH, TRUE, TALKER, BETRAYS

    private static void liars() {
        run("LIARS: nothing HEARD", "liars = 0", "tell q000;wl063; = 2", "liars = 0");
        run("LIARS: all five, and the last alone",
                "tell q000;" + times(5, "wl063;") + " = 6",
                "tell a00;a10;a20;a30; = 4", "liars = 15", "asks 4 0 = 1", "liars = 31",
                "empties = 5", "asks 4 0 = 1", "liars = 16", "knows 4 0 = 63",
                "empties = 1", "asks 4 0 = 2", "liars = 0");
        run("LIARS: yes to what is not, no to what is",
                "tell q000;q100;wl063;a00; = 4", "heard 0 2 = 1", "liars = 1",
                "tell n;a01; = 2", "heard 0 2 = 0", "liars = 1");
        run("LIARS: none fits: 0",
                "tell q000;wl063;a00; = 3", "liars = 1", "turn 0 2 0 = 10", "liars = 0",
                "fits 0 = 32", "tell n;f0; = 2", "turn 0 1 0 = 20", "asks 0 0 = 0", "liars = 1",
                "turn 0 2 0 = 10", "fits 0 = 0", "liars = 0");
        run("LIARS: by all CASES that FIT, not by some",
                "tell q000;wc000;a00; = 3", "liars = 0", "fits 0 = 64", "tell ww063; = 1",
                "asks 1 0 = 0", "liars = 1");
        run("LIARS: of 12 HEARD", "tell q000;wl063;ww063; = 3", "asks 0 0 = 1",
                "11* asks 1 0 = 0", "liars = 1", "asks 1 0 = 0", "liars = 0");
    }

    private static void clash() {
        run("CLASH: -9", "clash = -9", "tell f0;q000;wl063;a00; = 4", "clash = -9",
                "turn 0 2 0 = 10", "fits 0 = 0", "clash = -9", "asks 0 0 = 1", "clash = 1",
                "turn 0 1 0 = 20", "clash = 1");
        run("CLASH: the first two, behind a single that no CASE fits",
                "tell f0;q000;wl063;ww063;a10;a00; = 6", "clash = -9", "turn 0 2 0 = 10",
                "clash = 1", "empties = 2", "clash = -9");
        run("CLASH: the last two places of 12",
                "tell q000;ww000;ww063; = 3", "10* asks 0 0 = 2", "asks 1 0 = 0", "clash = -9",
                "sets 1 = 0", "asks 1 0 = 1", "clash = 1011", "asks 1 0 = 1", "clash = 910",
                "9* asks 1 0 = 1", "clash = 1", "asks 1 0 = 1", "clash = -9");
        run("CLASH: the first and the last place",
                "tell q000;q011;ww000;ww063; = 4", "asks 1 0 = 0", "10* asks 0 0 = 2",
                "sets 1 = 0", "asks 1 0 = 1", "clash = 11", "fits 0 = 0");
    }

    private static void trueAndTalker() {
        run("TRUE: none HEARD", "tell q000;ww063; = 2", "trueOf 0 = 0");
        run("TRUE: yes, no alone, of 12 HEARD",
                "tell f0;q000;q100;q055;ww001;wl001; = 6", "6* asks 0 0 = 1", "5* asks 0 1 = 0",
                "trueOf 0 = 11", "asks 0 2 = 2", "trueOf 0 = 11", "asks 0 1 = 0",
                "trueOf 0 = 11", "trueOf 1 = 0", "sets 0 = 1", "trueOf 0 = 0", "empties = 12",
                "trueOf 0 = 0", "12* asks 0 0 = 0", "trueOf 0 = 12", "asks 0 0 = 0",
                "trueOf 0 = 12");
        run("TRUE: a liar's nothing is no lie and not true",
                "tell q000;wl000;a00; = 3", "trueOf 0 = 0", "knows 0 1 = 0", "asks 0 0 = 1",
                "trueOf 0 = 0", "sets 1 = 0", "trueOf 0 = 1");
        run("TALKER: -9 none has", "talker = -9", "tell q000;ww000;ww063; = 3", "talker = -9",
                "12* asks 0 0 = 2", "talker = -9", "asks 1 0 = 0", "talker = 1",
                "12* asks 0 0 = 2", "talker = -9");
        run("TALKER: most, of several the least", "tell q000;" + times(5, "ww063;") + " = 6",
                "asks 4 0 = 0", "talker = 4", "asks 3 0 = 0", "talker = 3", "asks 4 0 = 0",
                "talker = 4", "asks 0 0 = 0", "asks 0 0 = 0", "talker = 0", "empties = 5",
                "talker = -9");
        run("TALKER: six of 12 each", "tell q000;ww063;ww063;ww063; = 4", "6* asks 2 0 = 0",
                "6* asks 1 0 = 0", "talker = 1", "asks 2 0 = 0", "talker = 1",
                "5* asks 2 0 = 0", "talker = 1", "asks 2 0 = 0", "talker = 2");
    }

    private static void betrays() {
        run("BETRAYS: no place", "betrays 0 = -1", "tell q000;ww063;a00; = 3", "betrays 0 = 1",
                "betrays 1 = -1", "betrays -1 = -1");
        run("BETRAYS: 0 .. 8 QUESTIONS, the first and the last place",
                EIGHT + " = 8", "tell ww063;ww000; = 2", "asks 1 0 = 2", "betrays 0 = 8",
                "10* asks 0 0 = 0", "betrays 10 = 6", "asks 0 6 = 1", "betrays 11 = 2",
                "betrays 12 = -1", "sets 63 = 0", "betrays 11 = 6", "betrays 10 = 2",
                "turn 0 5 0 = 0", "betrays 10 = 0", "betrays 11 = 8");
        run("BETRAYS: by ASKED as it was",
                "tell q000;q011;wf263;a00;a00;a00;a00; = 7", "betrays 1 = 2", "betrays 2 = 2",
                "betrays 3 = 2", "sets 1 = 0", "betrays 1 = 1", "betrays 2 = 2",
                "turn 0 3 1 = 32", "betrays 1 = 0", "betrays 2 = 0", "betrays 0 = 1");
    }

    // ---- VERDICT, MEAN, HIDDEN, SAME, IMPLIES

    private static void verdictAndMean() {
        run("VERDICT: a fraction in least terms",
                "verdict 0 0 = 1", "verdict 0 1 = 2", "verdict 5 0 = 1", "verdict 5 1 = 2",
                "tell f0;q000;q011;q022;ww063;a00; = 6", "jury 0 = 56", "verdict 0 0 = 4",
                "verdict 0 1 = 7", "verdict 5 0 = 1", "verdict 5 1 = 2");
        run("VERDICT: so by all 1 by 1, by none 0 by 1",
                "tell f5;q055;ww063;a00; = 4", "verdict 5 0 = 1", "verdict 5 1 = 1",
                "tell n;f5;a00; = 3", "verdict 5 0 = 0", "verdict 5 1 = 1");
        run("VERDICT: 0 by 1 of none", "tell q000;ww063;a00;f0;a00; = 5", "jury 0 = 0",
                "verdict 0 0 = 0", "verdict 0 1 = 1", "verdict 5 1 = 1");
        run("MEAN: in least terms", "mean 0 = 3", "mean 1 = 1",
                "tell f0;q201;ww063;a00; = 4", "mean 0 = 8", "mean 1 = 3", "tell n;f1;a00; = 3",
                "mean 0 = 4", "mean 1 = 1");
        run("MEAN: 0 by 1 of none", "tell q000;ww063;a00;f0;a00; = 5", "mean 0 = 0",
                "mean 1 = 1");
    }

    private static void hidden() {
        run("HIDDEN: no QUESTIONS, no WITNESSES", "hidden = 0", "tell ww063; = 1",
                "hidden = 0");
        run("HIDDEN: eight, that nobody would answer", EIGHT + " = 8", "hidden = 255",
                "tell ww000; = 1", "hidden = 255", "tell ww033; = 1", "hidden = 158",
                "tell ww063; = 1", "hidden = 0", "turn 2 2 0 = 0", "knows 1 0 = 33",
                "hidden = 63", "sets 63 = 0", "hidden = 192");
        run("HIDDEN: the last of five answers", "tell q000;" + times(4, "ww000;") + " = 5",
                "hidden = 1", "tell wc000; = 1", "hidden = 0");
        run("HIDDEN: by ASKED and 1",
                "tell q000;wf263;ww000; = 3", "hidden = 0", "asks 1 0 = 2", "hidden = 0",
                "asks 1 0 = 2", "hidden = 1", "asks 1 0 = 2", "hidden = 0");
    }

    private static void sameAndImplies() {
        run("SAME: -9", "same 0 = 0", "same 1 = -9", "tell q000; = 1", "same 0 = 0",
                "same 1 = -9", "tell q200; = 1", "same 0 = 1", "same 1 = 1");
        run("SAME: all twos of eight", "tell " + times(8, "q300;") + " = 8", "same 0 = 28",
                "same 1 = 1");
        run("SAME: the last two of eight", "tell q000;q011;q022;q033;q044;q055;q401;q410; = 8",
                "same 0 = 1", "same 1 = 67");
        run("SAME: by all CASES, not by those that FIT",
                "tell q000;q011;q201;ww063;a00;a01;a02; = 7", "same 0 = 0", "fits 0 = 16");
        run("IMPLIES: none fits: 1", "tell q000;q100;ww063; = 3", "implies 0 1 = 0",
                "implies 1 0 = 0", "asks 0 0 = 0", "implies 0 1 = 1", "implies 1 0 = 0",
                "sets 1 = 0", "asks 0 0 = 1", "fits 0 = 0", "implies 1 0 = 1",
                "implies 0 1 = 1");
        run("IMPLIES: the last QUESTION", EIGHT + " = 8", "implies 7 7 = 1", "implies 0 7 = 0",
                "implies 7 0 = 0", "implies 8 0 = -1", "implies 0 8 = -1");
    }

    // ---- TWO, DRAWN

    private static void two() {
        run("TWO: the next one (1; behind the last the first)",
                "tell q000;q011;ww001; = 3", "two 0 0 0 = 0", "two 0 0 1 = 1", "two 0 1 0 = 0",
                "two 0 1 1 = 1");
        run("TWO: the other's next of the eighth is the first", EIGHT + " = 8",
                "tell ww017; = 1", "two 0 7 7 = 1", "two 0 4 7 = 11", "two 0 4 4 = 0",
                "two 0 4 3 = 1", "two 0 3 5 = 1", "two 0 3 4 = 0", "two 0 0 3 = 11",
                "two 0 0 1 = 10");
        run("TWO: the one's next of the eighth is the first", EIGHT + " = 8",
                "tell ww002; = 1", "two 0 7 2 = 10", "two 0 6 2 = 0", "two 0 7 7 = 0",
                "two 0 7 0 = 1");
        run("TWO: one QUESTION, its next is itself", "tell q000;ww063; = 2", "two 0 0 0 = 0");
        run("TWO: -9", "tell q000;q011;ww063; = 3", "two 0 0 0 = -9", "two 0 0 1 = -9",
                "two 0 1 0 = -9", "two 0 1 1 = -9");
        run("TWO: -9, though a third QUESTION would do",
                "tell q000;q011;q022;ww003; = 4", "two 0 0 0 = -9");
        run("TWO: told or the next one, no other: the one",
                "tell f0;q000;q301;q022;q033;ww003; = 6", "two 0 0 2 = 10");
        run("TWO: told or the next one, no other: the other",
                "tell f0;q022;q301;q000;q033;ww003; = 6", "two 0 3 0 = 1");
        run("TWO: each by its own ASKED",
                "tell q000;q011;wf263;ww000; = 4", "two 0 0 0 = -9", "asks 1 0 = 2",
                "two 0 0 0 = 0", "two 0 1 1 = 0", "asks 1 0 = 2", "two 0 0 0 = 0",
                "two 0 1 1 = 0", "asks 1 0 = 2", "two 0 0 0 = -9");
        run("TWO: none fits, all are alike", "tell q000;q011;ww063;a00;f0;a00; = 6",
                "two 0 0 0 = 0", "two 0 1 1 = 0");
    }

    private static void drawn() {
        run("DRAWN: n times (0 .. 4), of eight QUESTIONS",
                "tell " + times(7, "q000;") + "q055;ww063; = 9", "drawn 0 -1 5 0 = "
                + "4000000000000000004", "drawn 0 0 5 0 = 0", "drawn 0 0 5 1 = 1",
                "drawn 0 1 5 0 = 1", "drawn 0 1 5 1 = 8", "drawn 0 2 5 0 = 15",
                "drawn 0 2 5 1 = 64", "drawn 0 3 5 0 = 169", "drawn 0 3 5 1 = 512",
                "drawn 0 4 5 0 = 1695", "drawn 0 4 5 1 = 4096",
                "drawn 0 5 5 0 = 4000000000000000006", "drawn 0 4 0 0 = 4095",
                "drawn 0 4 0 1 = 4096", "drawn 0 4 1 0 = 0", "drawn 0 4 1 1 = 1");
        run("DRAWN: one that is SURE, 1 by 1", "tell q000;q011;ww063;a00; = 4",
                "drawn 0 0 0 0 = 1", "drawn 0 0 0 1 = 1", "drawn 0 4 0 0 = 1",
                "drawn 0 4 0 1 = 1", "drawn 0 0 1 0 = 0", "drawn 0 0 1 1 = 1");
        run("DRAWN: each by its own ASKED",
                "tell q000;q011;wf263;ww000; = 4", "drawn 0 3 0 0 = 3", "drawn 0 3 0 1 = 4",
                "asks 1 0 = 2", "drawn 0 1 0 1 = 2", "drawn 0 2 0 0 = 1", "drawn 0 2 0 1 = 2",
                "drawn 0 3 0 0 = 3", "drawn 0 3 0 1 = 4", "drawn 0 4 0 0 = 7",
                "drawn 0 4 0 1 = 8", "asks 1 0 = 2", "drawn 0 1 0 0 = 0", "drawn 0 1 0 1 = 1",
                "drawn 0 2 0 0 = 1", "drawn 0 2 0 1 = 2", "drawn 0 4 0 0 = 3",
                "drawn 0 4 0 1 = 4");
        run("DRAWN: none fits, nothing is SURE", "tell q000;ww063;a00;f0;a00; = 5",
                "drawn 0 0 0 0 = 0", "drawn 0 0 0 1 = 1", "drawn 0 4 0 0 = 0",
                "drawn 0 4 0 1 = 1");
        run("DRAWN: -3 no QUESTIONS", "tell ww063; = 1", "drawn 0 0 0 0 = 4000000000000000003",
                "tell q000; = 1", "drawn 0 0 0 0 = 0", "count 13 = 1");
    }

    // ---- WHAT ONE IS, the ROW, LOTS

    private static void whatIs() {
        run("WHAT ONE IS: of no numbers", "tell ww000; = 1", "whatIs 0 0 = 63",
                "whatIs 0 1 = 64", "row 1 = 1", "whatIs 0 0 = -3", "whatIs 0 1 = -3",
                "count 6 = 1", "tell q000; = 1", "whatIs 0 0 = 32");
        run("WHAT ONE IS: as many numbers as QUESTIONS, one more", EIGHT + " = 8",
                "tell ww963; = 1", "6* row 0 = 6", "2* row 1 = 8", "whatIs 0 0 = 9",
                "whatIs 0 1 = 1", "row 1 = 9", "whatIs 0 0 = -3", "clear = 9",
                "whatIs 0 0 = 63", "whatIs 0 1 = 64");
        run("WHAT ONE IS: RATHER, behind the last the first", EIGHT + " = 8",
                "tell wr063; = 1", "5* row 0 = 5", "2* row 1 = 7", "row 0 = 8",
                "whatIs 0 0 = 16", "whatIs 0 1 = 1");
        run("WHAT ONE IS: numbers that are no ANSWERS", "tell q000;ww063; = 2", "row 3 = 1",
                "whatIs 0 0 = 0", "whatIs 0 1 = 0", "clear = 1", "row 99 = 1",
                "whatIs 0 0 = 0", "clear = 1", "row 2 = 1", "whatIs 0 0 = 12",
                "whatIs 0 1 = 32");
        run("WHAT ONE IS: each as if ASKED next",
                "tell q000;q011;q022;ww263;ww000; = 5", "3* row 2 = 3", "whatIs 0 0 = 4",
                "asks 1 0 = 2", "whatIs 0 0 = 4", "asks 1 0 = 2", "whatIs 0 0 = 12",
                "asks 1 0 = 2", "whatIs 0 0 = 4", "whatIs 0 1 = 8", "witness 0 0 = 0",
                "witness 0 2 = 63");
    }

    private static void rows() {
        run("A number more of the ROW (0 .. 99): how many. -4; -6 (99)",
                "row 0 = 1", "row 99 = 2", "row 100 = -6", "row -1 = -4",
                "row 2147483647 = -6", "row -2147483648 = -4", "count 6 = 2", "clear = 2",
                "clear = 0", "count 6 = 0");
        run("-6 (12, too)", "11* row 5 = 11", "row 5 = 12", "row 5 = -6", "row 100 = -6",
                "row -1 = -4", "count 6 = 12", "clear = 12", "row 5 = 1");
        run("JUDGED: of none", "judge = -9", "row 0 = 1", "judge = 0", "count 6 = 0",
                "judge = -9");
        run("JUDGED: the first that is not so (beyond them, too)",
                "tell q000;ww063;a00;a00; = 4", "judge = -9", "row 0 = 1", "judge = -9",
                "2* row 0 = 2", "judge = -9", "3* row 0 = 3", "judge = 2", "row 0 = 1",
                "row 1 = 2", "row 1 = 3", "judge = 1", "12* row 1 = 12", "judge = 0",
                "count 6 = 0");
        run("JUDGED: a full ROW of a full HEARD", "tell q000;ww063; = 2", "12* asks 0 0 = 0",
                "12* row 0 = 12", "judge = -9", "count 6 = 0", "11* row 0 = 11", "row 2 = 12",
                "judge = 11", "empties = 12", "12* row 0 = 12", "judge = 0");
    }

    /** What is due was counted by a program of another language, by the document's words. */
    private static void lots() {
        lotsOf(0, "0 1 2 8", "0 2 4 12", "0 20 32 116", "1 1 2 4", "1 2 2 12", "1 20 31 122");
        lotsOf(37, "-1 1 5 4", "-1 2 10 12", "-1 20 59 136", "2147483647 1 5 4",
                "2147483647 2 10 12", "2147483647 20 59 136", "-2147483648 1 4 8",
                "-2147483648 2 6 12", "-2147483648 20 57 116");
        lotsOf(63, "255 1 2 4", "255 2 6 12", "255 20 74 116", "256 1 4 4", "256 2 6 8",
                "256 20 69 106");
        run("LOTS: 1 .. 20 sessions of 6 QUESTIONS", "tell f0;q000;ww063; = 3",
                "lots 0 0 0 = -4", "lots 1 0 0 = 6", "lots 1 0 1 = 32", "lots 20 0 0 = 120",
                "lots 20 0 1 = 640", "lots 21 0 0 = -6");
        run("LOTS: each from now",
                "tell f0;q000;wf363;a00; = 4", "fits 0 = 32", "lots 1 9 0 = 5",
                "lots 20 9 0 = 100", "lots 20 9 1 = 640", "count 4 = 1", "count 3 = 1",
                "asks 0 0 = 1", "lots 20 9 0 = 80");
        run("LOTS: of 12 there are the first is dropped",
                "tell f0;q000;wl063;a00; = 4", "turn 0 0 0 = 10", "5* asks 0 0 = 1",
                "count 3 = 6", "lots 1 3 1 = 0", "asks 0 0 = 1", "lots 1 3 1 = 32",
                "lots 20 3 1 = 640", "lots 20 3 0 = 120", "count 3 = 7", "heard 0 2 = 0",
                "fits 0 = 0");
        run("LOTS: -3 no WITNESSES, no QUESTIONS", "lots 1 0 0 = -3", "tell q000; = 1",
                "lots 1 0 1 = -3", "tell ww063; = 1", "lots 1 0 1 = 32", "count 13 = 2");
        run("LOTS: -3 no QUESTIONS", "tell ww063; = 1", "lots 1 0 0 = -3", "count 13 = 1");
    }

    /** Each line: the seed, how many sessions, then what is due of either what. */
    private static void lotsOf(int cases, String... lines) {
        for (String line : lines) {
            String[] told = line.split(" ");
            String call = "lots " + told[1] + " " + told[0];
            run("LOTS with a seed z " + told[0], EIGHT + " = 8", FIVE + " = 5",
                    "sets " + cases + " = 0", call + " 0 = " + told[2],
                    call + " 1 = " + told[3], "count 4 = 0", "count 3 = 0");
        }
    }

    // ---- THE IMAGE, counts

    private static void images() {
        run("ON: -3 there is none", "on = -3", "count 13 = 1", "image = 0", "on = 0",
                "count 13 = 1");
        run("ON from it all is as then, more than once",
                "tell q000;ww063;a00; = 3", "image = 1", "2* asks 0 0 = 0", "sets 63 = 0",
                "count 4 = 3", "on = 1", "count 4 = 1", "count 2 = 0", "count 3 = 1",
                "tell f0;q011;wl000;n; = 4", "on = 1", "count 0 = 1", "count 1 = 1",
                "count 2 = 0", "count 3 = 1", "asks 0 0 = 0", "image = 2", "empties = 2",
                "on = 2", "count 3 = 2");
        run("THE IMAGE of nothing", "image = 0", EIGHT + " = 8", FIVE + " = 5",
                "12* asks 0 0 = 0", "sets 9 = 0", "on = 0", "count 0 = 0", "count 1 = 0",
                "count 2 = 0", "count 3 = 0", "count 4 = 0", "question 0 0 = -1",
                "witness 0 0 = -1", "tell q411; = 1", "question 0 0 = 4", "asks 0 0 = -1");
        run("THE IMAGE of all there can be", EIGHT + " = 8", FIVE + " = 5",
                "12* asks 0 0 = 0", "asks 4 7 = 0", "image = 13", "12* asks 1 7 = 0",
                "turn 4 0 0 = 40", "knows 4 0 = 63", "on = 13", "count 3 = 12",
                "heard 11 0 = 4", "heard 11 1 = 7", "heard 11 3 = 13", "heard 0 3 = 2",
                "witness 4 0 = 4", "witness 4 2 = 63");
        run("but it, the ROW, letters, REFUSALS",
                "image = 0", "row 7 = 1", "letter 110 = 1", "fact 6 = -1", "on = 0",
                "count 6 = 1", "count 7 = 1", "count 11 = 1", "letter 59 = 2", "court = 1",
                "image = 0", "clear = 1", "on = 0", "count 6 = 0", "count 7 = 0");
    }

    private static void counts() {
        run("-9 for another what", "count -1 = -9", "count 0 = 0", "count 7 = 0", "count 8 = -9",
                "count 9 = -9", "count 10 = -9", "count 11 = 0", "count 16 = 0", "count 17 = -9",
                "count 2147483647 = -9", "count -2147483648 = -9", "count 11 = 0",
                "count 12 = 0", "count 13 = 0", "count 14 = 0", "count 15 = 0", "count 16 = 0");
        run("5 QUESTIONS that are SO (bits)", "count 5 = 0", EIGHT + " = 8", "count 5 = 192",
                "sets 63 = 0", "count 5 = 63", "sets 1 = 63", "count 5 = 129");
        run("REFUSALS -1 .. -6: how many there were", "3* fact 6 = -1", "2* fits 2 = -2",
                "on = -3", "4* sets -1 = -4", "5* sets 64 = -6", "2* verdict 6 0 = "
                + "4000000000000000001", "mean 2 = 4000000000000000002", "count 11 = 5",
                "count 12 = 3", "count 13 = 1", "count 14 = 4", "count 15 = 0", "count 16 = 5");
    }
}
