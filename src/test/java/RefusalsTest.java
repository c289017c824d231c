import java.util.Set;
import java.util.TreeSet;

/** Each call that is refused, which of several refusals it is, and what it leaves as it was. */
public final class RefusalsTest {
    private static final Check CHECK = new Check();
    private static final String EIGHT = "tell q000;q011;q022;q033;q044;q055;q100;q111;";
    private static final String FIVE = "tell ww063;wl063;wb063;wf163;wr063;";

    /** All there can be, with an image that is another, a row and letters. */
    private static final String[] FULL = {
        "tell q000;q111;q202;q313;q424;q035;q144;q255;", "tell ww063;wl163;wb207;wf363;wr963;",
        "sets 37", "3* asks 0 0", "4* asks 1 3", "asks 2 7", "2* asks 3 4", "3* asks 4 6",
        "image", "sets 22", "asks 1 1", "knows 2 5", "turn 3 5 4", "row 1", "row 0",
        "letter 102", "letter 48", "letter 59"
    };
    private static final Set<String> REFUSED = new TreeSet<>();

    public static void main(String[] args) {
        nobody();
        nobodyOfLongs();
        other();
        belowAndRoom();
        noRoom();
        state();
        Set<String> never = Calls.face();
        never.removeAll(REFUSED);
        CHECK.about("REFUSALS");
        CHECK.that("refused are all but these: " + never, never.equals(new TreeSet<>(Set.of(
                "clash", "clear", "count", "court", "empties", "hidden", "image", "judge",
                "liars", "talker"))));
        CHECK.close();
    }

    /** The answer is due of each of the calls, on a new object that came so far. */
    private static void due(String[] court, long want, String... calls) {
        int code = (int) (want > 0 ? want - 4000000000000000000L : -want);
        for (String call : calls) {
            CHECK.about("REFUSALS: " + call);
            REFUSED.add(call.split(" ")[0]);
            Calls calm = played(court);
            Calls refused = played(court);
            String before = refused.state();
            CHECK.due(call, refused.make(call), want);
            CHECK.that("all is as it was", refused.state().equals(before));
            long[] many = refused.refusals();
            for (int i = 0; i < many.length; i++) {
                CHECK.due("how many of -" + (i + 1), many[i], i + 1 == code ? 1 : 0);
            }
            CHECK.that("the row, letters, the image are", refused.rest().equals(calm.rest()));
            CHECK.that("it takes 512 calls at most", refused.made() <= Calls.MOST);
        }
    }

    private static Calls played(String[] court) {
        Calls calls = new Calls();
        for (String words : court) {
            CHECK.that(words + " is not refused", calls.make(words) >= 0);
        }
        return calls;
    }

    private static void nobody() {
        due(FULL, -1, "fact -1", "fact 6", "fact 2147483647", "fact -2147483648");
        due(FULL, -1, "question -1 0", "question 8 0", "question 8 4",
                "question -2147483648 9", "question 2147483647 9");
        due(FULL, -1, "witness -1 0", "witness 5 0", "witness 5 3", "witness -1 -1",
                "witness 2147483647 0");
        due(FULL, -1, "asks -1 0", "asks 5 0", "asks 0 -1", "asks 0 8", "asks 5 8",
                "asks -2147483648 2147483647");
        due(FULL, -1, "heard -1 0", "heard 12 0", "heard 12 4", "heard -1 -1",
                "heard 2147483647 0");
        due(FULL, -1, "knows -1 0", "knows 5 0", "knows 5 -1", "knows -1 64");
        due(FULL, -1, "turn -1 0 0", "turn 5 0 0", "turn 5 6 0", "turn 5 0 -1",
                "turn 5 0 10", "turn -1 -1 -1");
        due(FULL, -1, "answer -1 0 0", "answer 5 0 0", "answer 0 -1 0", "answer 0 8 0",
                "answer 5 0 -2", "answer 0 8 -2", "answer 0 8 64", "answer -1 0 64");
        due(FULL, -1, "settle -1 0 0", "settle 5 0 0", "settle 0 -1 0", "settle 0 6 0",
                "settle 5 0 2", "settle 0 6 2");
        due(FULL, -1, "words -1 0", "words 5 0", "words 5 3", "words -1 -1");
        due(FULL, -1, "trueOf -1", "trueOf 5", "trueOf 2147483647");
        due(FULL, -1, "betrays -1", "betrays 12", "betrays -2147483648");
        due(FULL, -1, "implies -1 0", "implies 8 0", "implies 0 -1", "implies 0 8");
        due(FULL, -1, "two -1 0 0", "two 5 0 0", "two 0 -1 0", "two 0 8 0", "two 0 0 -1",
                "two 0 0 8");
        due(FULL, -1, "whatIs -1 0", "whatIs 5 0", "whatIs 5 2", "whatIs -1 -1");
    }

    private static void nobodyOfLongs() {
        due(FULL, 4000000000000000001L, "verdict -1 0", "verdict 6 0", "verdict 6 2",
                "verdict -1 -1");
        due(FULL, 4000000000000000001L, "drawn -1 0 0 0", "drawn 5 0 0 0",
                "drawn 0 0 -1 0", "drawn 0 0 6 0", "drawn 5 -1 0 0", "drawn 0 5 6 0",
                "drawn 0 0 6 2", "drawn 5 0 0 -1");
    }

    private static void other() {
        due(FULL, -2, "question 0 -1", "question 7 4", "witness 0 -1", "witness 4 3",
                "heard 0 -1", "heard 11 4", "turn 0 -1 0", "turn 4 6 0", "turn 0 6 -1",
                "turn 0 6 10", "turn 0 -1 10", "fits -1", "fits 2", "jury -1", "jury 2",
                "sure -1", "sure 2", "next -1", "next 2", "settle 0 0 -1", "settle 4 5 2",
                "words 0 -1", "words 4 3", "same -1", "same 2", "whatIs 0 -1", "whatIs 4 2",
                "lots 1 0 -1", "lots 20 0 2", "fits 2147483647", "sure -2147483648");
        due(FULL, 4000000000000000002L, "verdict 0 -1", "verdict 5 2",
                "drawn 0 0 0 -1", "drawn 4 4 5 2", "mean -1", "mean 2",
                "mean -2147483648");
    }

    private static void belowAndRoom() {
        due(FULL, -4, "letter -1", "sets -1", "sets -2147483648", "knows 0 -1",
                "knows 4 -2147483648", "turn 0 0 -1", "turn 4 5 -1", "answer 0 0 -2",
                "answer 4 7 -2147483648", "row -1", "lots 0 0 0", "lots -1 0 0", "lots 0 0 2",
                "lots -2147483648 0 -1");
        due(FULL, 4000000000000000004L, "drawn 0 -1 0 0", "drawn 4 -1 5 2",
                "drawn 0 -2147483648 0 -1");
        due(FULL, -6, "letter 256", "sets 64", "sets 2147483647", "knows 0 64",
                "knows 4 2147483647", "turn 0 0 10", "turn 4 5 2147483647", "answer 0 0 64",
                "answer 4 7 2147483647", "row 100", "lots 21 0 0", "lots 21 0 2",
                "lots 2147483647 0 -1");
        due(FULL, 4000000000000000006L, "drawn 0 5 0 0", "drawn 4 5 5 2",
                "drawn 0 2147483647 0 -1");
    }

    private static void noRoom() {
        String[] letters = {EIGHT, "image", "95* letter 110", "letter 59"};
        due(letters, -6, "letter 0", "letter 59", "letter 255", "letter 256");
        due(letters, -4, "letter -1");
        String[] row = {EIGHT, FIVE, "12* asks 0 0", "image", "12* row 0"};
        due(row, -6, "row 0", "row 99", "row 100");
        due(row, -4, "row -1");
    }

    private static void state() {
        String[] bare = {"tell f0;", "row 1"};
        due(bare, -3, "on", "lots 1 0 0", "lots 20 5 1");
        due(bare, -4, "lots 0 0 0", "lots 0 0 2");
        due(bare, -6, "lots 21 0 0", "lots 21 0 2");
        due(bare, -2, "lots 1 0 2");
        String[] witness = {"tell f0;ww063;", "row 1", "image"};
        due(witness, -3, "lots 1 0 0", "lots 20 0 1", "whatIs 0 0", "whatIs 0 1");
        due(witness, -2, "whatIs 0 2", "lots 1 0 2");
        due(witness, -1, "whatIs 1 0", "whatIs 1 2");
        due(witness, 4000000000000000001L, "drawn 1 0 0 0", "drawn 0 0 6 0");
        due(witness, 4000000000000000002L, "drawn 0 0 0 2");
        due(witness, 4000000000000000003L, "drawn 0 0 0 0", "drawn 0 4 5 1");
        due(witness, 4000000000000000004L, "drawn 0 -1 0 0");
        due(witness, 4000000000000000006L, "drawn 0 5 0 0");
        String[] question = {"tell f0;q000;", "row 1", "image"};
        due(question, -3, "lots 1 0 0", "lots 20 0 1");
        String[] nine = {EIGHT, FIVE, "9* row 0", "image"};
        due(nine, -3, "whatIs 0 0", "whatIs 4 1");
        due(nine, -2, "whatIs 0 2");
        due(nine, -1, "whatIs 5 0");
    }
}
