import java.math.BigInteger;
import java.util.Arrays;
import java.util.function.Supplier;

/**
 * For each sentence of the document that names a boundary case, a test of its own, which begins with
 * the sentence. The numbers that are due were worked out from the document, apart from the class.
 */
public final class BoundaryTest {
    private static final String INDEX = "throws.IndexOutOfBoundsException";
    private static final String ARGUMENT = "throws.IllegalArgumentException";
    private static final String STATE = "throws.IllegalStateException";

    private static final int TURN_THERE = 0;
    private static final int EMPTY = 2;
    private static final int FULL = 1;
    private static final int SIX = 3;
    private static final int SEVEN = 4;

    /** Twelve turns of the order 36, which is the greatest. */
    private static final int[] LONG_ORDER = {1, 5, 0, 3, 1, 4, 1, 8, 2, 4, 0, 6};
    /** Twelve turns that bring all corners but the one that never moves elsewhere. */
    private static final int[] SEVEN_ELSEWHERE = {0, 5, 2, 4, 0, 6, 5, 8, 4, 0, 5, 7};
    /** Twelve turns that twist all corners but the one that never moves, each at its place. */
    private static final int[] SEVEN_TWISTED = {0, 7, 4, 8, 2, 6, 0, 8, 2, 3, 2, 6};
    /** Twelve turns that do nothing, with no two of one face side by side. */
    private static final int[] NOTHING = {1, 4, 1, 4, 1, 4, 1, 4, 1, 4, 1, 4};

    private static final String RIGHT_CUBE = "00 10 20 30 40 50 60 70";

    private static String sentence = "";
    private static int wrong = 0;

    private interface Call {
        Object on(CornerCube x);
    }

    private interface CallWith {
        Object on(CornerCube x, int argument);
    }

    // What is held against what.

    private static void sentence(String text) {
        sentence = text;
    }

    private static void due(String what, Object want, Object got) {
        if (!want.toString().equals(got.toString())) {
            wrong++;
            System.out.println(sentence + "\n    " + what + ": " + got + ", due is " + want);
        }
    }

    private static Object outcome(CornerCube x, Call call) {
        try {
            return call.on(x);
        } catch (RuntimeException e) {
            return "throws." + e.getClass().getSimpleName();
        }
    }

    /** The call throws this, and the object then answers as one that was never called so. */
    private static void refused(String what, String want, Supplier<CornerCube> made, Call call) {
        CornerCube x = made.get();
        due(what, want, outcome(x, call));
        due("all answers behind the refused " + what, everything(made.get()), everything(x));
    }

    /** Two arguments' values with their answers; below the one and above the other the call is refused. */
    private static void edges(String what, String refusal, int least, Object atLeast, int greatest,
            Object atGreatest, CallWith call) {
        due(what + " with " + least, atLeast, outcome(busy(), x -> call.on(x, least)));
        due(what + " with " + greatest, atGreatest, outcome(busy(), x -> call.on(x, greatest)));
        for (int outside : new int[] {least - 1, greatest + 1, Integer.MIN_VALUE, Integer.MAX_VALUE}) {
            refused(what + " with " + outside, refusal, BoundaryTest::busy, x -> call.on(x, outside));
        }
    }

    private static void changesNothing(String what, Call call) {
        CornerCube x = busy();
        call.on(x);
        due("all answers behind " + what, everything(busy()), everything(x));
    }

    /** What each asking call answers, and then what some of the changing ones do: fewer than 400 calls. */
    private static String everything(CornerCube x) {
        StringBuilder all = new StringBuilder();
        all.append(cubeOf(x)).append('|').append(countsOf(x)).append('|');
        for (int i = 0; i < 8; i++) {
            all.append(x.where(i)).append(x.told(i, 2));
        }
        for (int word = 0; word < 5; word++) {
            all.append('|').append(wordOf(x, word)).append('|').append(factsOf(x, word));
            for (int other = 0; other < 5; other++) {
                all.append(x.same(word, other) ? '=' : '-').append(x.mixed(word, other));
            }
            all.append('|').append(x.shortest(word, 5));
        }
        all.append('|').append(x.far(5)).append(x.first(5)).append(x.advise());
        all.append('|').append(x.mean()).append('|').append(x.digest());
        for (int word = 0; word < 5; word++) {
            final int played = word;
            all.append('|').append(outcome(x, y -> y.play(played, 1)));
            all.append(x.tidy(word)).append(x.round(word)).append(x.wipe(word));
        }
        all.append(x.turn(0, 1)).append('|').append(x.digest()).append(x.reset());
        return all.toString();
    }

    private static String cubeOf(CornerCube x) {
        StringBuilder text = new StringBuilder();
        for (int place = 0; place < 8; place++) {
            text.append(place == 0 ? "" : " ").append(x.told(place, 0)).append(x.told(place, 1));
        }
        return text.toString();
    }

    private static String countsOf(CornerCube x) {
        StringBuilder text = new StringBuilder();
        for (int what = 0; what < 7; what++) {
            text.append(what == 0 ? "" : " ").append(x.count(what));
        }
        return text.toString();
    }

    private static String wordOf(CornerCube x, int word) {
        StringBuilder text = new StringBuilder();
        for (int i = 0; i < x.word(word, 0); i++) {
            text.append(i == 0 ? "" : " ").append(x.at(word, i));
        }
        return text.toString();
    }

    private static String factsOf(CornerCube x, int word) {
        return x.word(word, 0) + " " + x.word(word, 1) + " " + x.word(word, 2) + " " + x.word(word, 3);
    }

    private static String asText(int... turns) {
        StringBuilder text = new StringBuilder();
        for (int i = 0; i < turns.length; i++) {
            text.append(i == 0 ? "" : " ").append(turns[i]);
        }
        return text.toString();
    }

    // Objects to begin with.

    private static void say(CornerCube x, int word, int... turns) {
        for (int turn : turns) {
            x.say(word, turn / 3, turn % 3 + 1);
        }
    }

    private static CornerCube withWord(int word, int... turns) {
        CornerCube x = new CornerCube();
        say(x, word, turns);
        return x;
    }

    private static CornerCube turnedBy(int... turns) {
        CornerCube x = new CornerCube();
        for (int turn : turns) {
            x.turn(turn / 3, turn % 3 + 1);
        }
        return x;
    }

    /** A cube three turns from right, and words of 1, 12, 0, 6 and 7 turns. */
    private static CornerCube busy() {
        CornerCube x = turnedBy(0, 4, 6);
        say(x, TURN_THERE, 4);
        say(x, FULL, 0, 3, 6, 1, 4, 7, 2, 5, 8, 0, 4, 8);
        say(x, SIX, 3, 8, 3, 8, 3, 8);
        say(x, SEVEN, 0, 0, 3, 5, 2, 2, 7);
        return x;
    }

    /** Five words of twelve turns, and a right cube. */
    private static CornerCube allFull() {
        CornerCube x = new CornerCube();
        say(x, 0, LONG_ORDER);
        say(x, 1, SEVEN_ELSEWHERE);
        say(x, 2, SEVEN_TWISTED);
        say(x, 3, NOTHING);
        say(x, 4, 0, 0, 0, 0, 0, 0, 0, 0, 0, 0, 0, 0);
        return x;
    }

    // Terms.

    private static void theLastPlaceOfARingGoesToTheFirst() {
        sentence("Terms: top 3 to 0; right 4 to 0; front 1 to 0.");
        due("top", "30 00 10 20 40 50 60 70", cubeOf(turnedBy(0)));
        due("right", "42 10 20 01 71 50 60 32", cubeOf(turnedBy(3)));
        due("front", "11 52 20 30 02 41 60 70", cubeOf(turnedBy(6)));
    }

    private static void twistsGoByTheRemainderOfThree() {
        sentence("Terms: each with as much twist more than it had as told, by the remainder of 3.");
        // 1 and 2 more come to 0; so with the halves all twists are away, with threes they come again.
        due("right by 2", "70 10 20 40 30 50 60 00", cubeOf(turnedBy(4)));
        due("right by 3", "32 10 20 71 01 50 60 42", cubeOf(turnedBy(5)));
        due("front by 2", "50 40 20 30 10 00 60 70", cubeOf(turnedBy(7)));
        due("front by 3", "41 02 20 30 52 11 60 70", cubeOf(turnedBy(8)));
        // 2 and 2 more come to 1: the corner 4 goes with 2 to 0, and from there with 2 to 4.
        due("told(4, 0)", 4, turnedBy(3, 6).told(4, 0));
        due("told(4, 1)", 1, turnedBy(3, 6).told(4, 1));
    }

    private static void fourQuartersAreNone() {
        sentence("Terms: a face, and 1, 2 or 3 quarters, one behind the other.");
        for (int face = 0; face < 3; face++) {
            for (int quarters = 1; quarters <= 3; quarters++) {
                CornerCube x = new CornerCube();
                due("the face " + face + " by " + quarters, 4, x.turn(face, quarters));
                due("and by the rest of four", 8, x.turn(face, 4 - quarters));
                due("the cube then", RIGHT_CUBE, cubeOf(x));
            }
        }
    }

    private static void theNumberOfATurn() {
        sentence("Terms: its number is 3 times the face, and the quarters less 1.");
        CornerCube x = new CornerCube();
        for (int face = 0; face < 3; face++) {
            for (int quarters = 1; quarters <= 3; quarters++) {
                x.say(3, face, quarters);
            }
        }
        due("all nine turns, from the least to the greatest", "0 1 2 3 4 5 6 7 8", wordOf(x, 3));
    }

    private static void anOrderIsOneOrMore() {
        sentence("Terms: the least number of times, 1 or more; 1 for a word without turns.");
        due("without turns", 1, new CornerCube().word(0, 1));
        due("of two turns that do nothing", 1, withWord(0, 0, 2).word(0, 1));
        due("of twelve turns that do nothing", 1, withWord(0, NOTHING).word(0, 1));
        due("of one turn by a half", 2, withWord(0, 4).word(0, 1));
        due("the greatest", 36, withWord(0, LONG_ORDER).word(0, 1));
        CornerCube x = withWord(0, LONG_ORDER);
        due("35 times leave it wrong", false, x.play(0, 35) == 8);
        due("and once more sets it right", 8, x.play(0, 1));
    }

    private static void theOrderOfARightCubeIsOne() {
        sentence("Terms: the order of the cube: likewise (1, if it is right).");
        due("new", 1, new CornerCube().count(5));
        due("right again", 1, turnedBy(0, 2).count(5));
        due("a half", 2, turnedBy(7).count(5));
        due("the greatest", 36, turnedBy(LONG_ORDER).count(5));
        due("all at their places, but twisted", 3, turnedBy(SEVEN_TWISTED).count(5));
    }

    // 1: a new object.

    private static void aNewCubeIsRight() {
        sentence("1: creates a right cube.");
        due("the cube", RIGHT_CUBE, cubeOf(new CornerCube()));
        due("its counts", "0 8 8 8 0 1 0", countsOf(new CornerCube()));
    }

    private static void aNewObjectHasFiveWordsWithoutTurns() {
        sentence("1: and five words without turns.");
        for (int word = 0; word < 5; word++) {
            final int w = word;
            CornerCube x = new CornerCube();
            due("word " + word, "0 1 0 0", factsOf(x, word));
            due("at(" + word + ", 0)", INDEX, outcome(x, y -> y.at(w, 0)));
            due("play(" + word + ", 1)", STATE, outcome(x, y -> y.play(w, 1)));
        }
    }

    private static void objectsShareNothing() {
        sentence("1: creates a right cube, and five words without turns (whatever another object has).");
        String before = everything(new CornerCube());
        CornerCube other = busy();
        due("a new object beside a busy one", before, everything(new CornerCube()));
        due("the busy one beside new ones", -4226268012189747210L, other.digest());
    }

    // 2: turn.

    private static void turnFace() {
        sentence("2: throws IndexOutOfBoundsException if face is not 0 to 2.");
        edges("turn(face, 3)", INDEX, 0, 2, 2, 2, (x, face) -> x.turn(face, 3));
        due("the face 0", "10 20 30 00 40 50 60 70", cubeOf(turnedBy(2)));
        due("the face 2", "41 02 20 30 52 11 60 70", cubeOf(turnedBy(8)));
    }

    private static void turnQuarters() {
        sentence("2: throws IllegalArgumentException if quarters is not 1 to 3.");
        edges("turn(0, quarters)", ARGUMENT, 1, 1, 3, 2, (x, quarters) -> x.turn(0, quarters));
        edges("turn(2, quarters)", ARGUMENT, 1, 1, 3, 2, (x, quarters) -> x.turn(2, quarters));
    }

    private static void turnThrowsTheFirstNamed() {
        sentence("2: if several exceptions apply, the one that is named first is thrown.");
        refused("turn(-1, 0)", INDEX, BoundaryTest::busy, x -> x.turn(-1, 0));
        refused("turn(3, 4)", INDEX, BoundaryTest::busy, x -> x.turn(3, 4));
    }

    private static void turnCountsTheRight() {
        sentence("2: returns how many corners are right then.");
        CornerCube x = new CornerCube();
        due("top", 4, x.turn(0, 1));
        due("right", 2, x.turn(1, 1));
        due("front: only the corner that never moves", 1, x.turn(2, 1));
        x.turn(2, 3);
        x.turn(1, 3);
        due("all", 8, x.turn(0, 3));
    }

    // 3: play.

    private static void playWord() {
        sentence("3: throws IndexOutOfBoundsException if word is not 0 to 4.");
        edges("play(word, 1)", INDEX, 0, 2, 4, 1, (x, word) -> x.play(word, 1));
    }

    private static void playTimes() {
        sentence("3: throws IllegalArgumentException if times is not 1 to 50.");
        edges("play(1, times)", ARGUMENT, 1, 1, 50, 2, (x, times) -> x.play(FULL, times));
        CornerCube x = withWord(0, 0);
        due("top 50 times", 4, x.play(0, 50));
        due("which is twice", "20 30 00 10 40 50 60 70", cubeOf(x));
        due("once more", 4, x.play(0, 1));
        due("which is three times", "10 20 30 00 40 50 60 70", cubeOf(x));
    }

    private static void playWithoutTurns() {
        sentence("3: throws IllegalStateException if it has no turns.");
        refused("play(2, 1)", STATE, BoundaryTest::busy, x -> x.play(EMPTY, 1));
        refused("play(2, 50)", STATE, BoundaryTest::busy, x -> x.play(EMPTY, 50));
        CornerCube x = busy();
        x.wipe(FULL);
        due("behind wipe", STATE, outcome(x, y -> y.play(FULL, 1)));
        CornerCube z = withWord(0, 0, 2);
        due("turns that do nothing are turns", 8, z.play(0, 1));
        z.tidy(0);
        due("behind tidy that takes all", STATE, outcome(z, y -> y.play(0, 1)));
    }

    private static void playThrowsTheFirstNamed() {
        sentence("3: if several exceptions apply, the one that is named first is thrown.");
        for (int times : new int[] {0, 51}) {
            refused("play(-1, " + times + ")", INDEX, BoundaryTest::busy, x -> x.play(-1, times));
            refused("play(5, " + times + ")", INDEX, BoundaryTest::busy, x -> x.play(5, times));
            refused("play(2, " + times + ") without turns", ARGUMENT, BoundaryTest::busy,
                    x -> x.play(EMPTY, times));
        }
    }

    private static void playsTwelveFiftyTimes() {
        sentence("3: plays a word on the cube, turn by turn, so many times.");
        CornerCube x = withWord(4, LONG_ORDER);
        x.play(4, 50);
        due("count(0)", 600, x.count(0));
        CornerCube y = new CornerCube();
        for (int i = 0; i < 50 - 36; i++) {
            for (int turn : LONG_ORDER) {
                y.turn(turn / 3, turn % 3 + 1);
            }
        }
        due("50 times is 14 times, of the order 36", cubeOf(y), cubeOf(x));
    }

    // 4: reset.

    private static void resetOfARightCube() {
        sentence("4: returns how many corners were not right.");
        due("none", 0, new CornerCube().reset());
        CornerCube x = turnedBy(0, 3, 6);
        due("all but the one that never moves", 7, x.reset());
        due("then none", 0, x.reset());
        due("all but one at their places, but twisted", 7, turnedBy(SEVEN_TWISTED).reset());
        due("not twisted, but elsewhere", 4, turnedBy(0).reset());
    }

    private static void resetLeavesWords() {
        sentence("4: sets the cube right; words stay.");
        CornerCube x = busy();
        due("reset()", 7, x.reset());
        due("the cube", RIGHT_CUBE, cubeOf(x));
        due("the full word", "0 3 6 1 4 7 2 5 8 0 4 8", wordOf(x, FULL));
        due("the word without turns", "", wordOf(x, EMPTY));
        due("the counts", "3 8 8 8 0 1 26", countsOf(x));
    }

    // 5: say.

    private static void sayWord() {
        sentence("5: throws IndexOutOfBoundsException if word is not 0 to 4.");
        edges("say(word, 0, 1)", INDEX, 0, 2, 4, 8, (x, word) -> x.say(word, 0, 1));
    }

    private static void sayFace() {
        sentence("5: throws IndexOutOfBoundsException if face is not 0 to 2.");
        edges("say(2, face, 1)", INDEX, 0, 1, 2, 1, (x, face) -> x.say(EMPTY, face, 1));
        due("the least", "0", wordOf(withWord(0, 0), 0));
        due("the greatest", "6", wordOf(withWord(0, 6), 0));
    }

    private static void sayQuarters() {
        sentence("5: throws IllegalArgumentException if quarters is not 1 to 3.");
        edges("say(3, 1, quarters)", ARGUMENT, 1, 7, 3, 7, (x, quarters) -> x.say(SIX, 1, quarters));
        due("the least", "3", wordOf(withWord(0, 3), 0));
        due("the greatest", "5", wordOf(withWord(0, 5), 0));
    }

    private static void sayOfTheThirteenth() {
        sentence("5: throws IllegalStateException if it has 12.");
        CornerCube x = busy();
        due("the first", 1, x.say(EMPTY, 2, 3));
        for (int i = 2; i <= 12; i++) {
            due("one more", i, x.say(EMPTY, i % 3, 1));
        }
        due("the thirteenth", STATE, outcome(x, y -> y.say(EMPTY, 0, 1)));
        due("the word then", "8 6 0 3 6 0 3 6 0 3 6 0", wordOf(x, EMPTY));
        for (int word = 0; word < 5; word++) {
            final int w = word;
            refused("say() to the full word " + w, STATE, BoundaryTest::allFull, y -> y.say(w, 2, 3));
        }
    }

    private static void sayThrowsTheFirstNamed() {
        sentence("5: if several exceptions apply, the one that is named first is thrown.");
        for (int bad : new int[] {0, 4}) {
            refused("say(-1, 0, " + bad + ")", INDEX, BoundaryTest::busy, x -> x.say(-1, 0, bad));
            refused("say(5, 0, " + bad + ")", INDEX, BoundaryTest::busy, x -> x.say(5, 0, bad));
            refused("say(0, -1, " + bad + ")", INDEX, BoundaryTest::busy, x -> x.say(0, -1, bad));
            refused("say(0, 3, " + bad + ")", INDEX, BoundaryTest::busy, x -> x.say(0, 3, bad));
            refused("say(1, 3, " + bad + ") of twelve", INDEX, BoundaryTest::busy, x -> x.say(FULL, 3, bad));
            refused("say(1, 0, " + bad + ") of twelve", ARGUMENT, BoundaryTest::busy, x -> x.say(FULL, 0, bad));
            refused("say(5, 3, " + bad + ")", INDEX, BoundaryTest::busy, x -> x.say(5, 3, bad));
        }
        refused("say(1, -1, 1) of twelve", INDEX, BoundaryTest::busy, x -> x.say(FULL, -1, 1));
        refused("say(1, 3, 1) of twelve", INDEX, BoundaryTest::busy, x -> x.say(FULL, 3, 1));
    }

    // 6: wipe.

    private static void wipeWord() {
        sentence("6: throws IndexOutOfBoundsException if word is not 0 to 4.");
        edges("wipe(word)", INDEX, 0, 1, 4, 7, (x, word) -> x.wipe(word));
    }

    private static void wipeOfNoneAndOfTwelve() {
        sentence("6: takes all turns of a word away. Returns how many there were.");
        CornerCube x = busy();
        due("of none", 0, x.wipe(EMPTY));
        due("of twelve", 12, x.wipe(FULL));
        due("again", 0, x.wipe(FULL));
        due("what is left", "0 1 0 0", factsOf(x, FULL));
        due("the turns of all words", 14, x.count(6));
        due("at(1, 0)", INDEX, outcome(x, y -> y.at(FULL, 0)));
        due("the first said anew", 1, x.say(FULL, 2, 3));
        due("the word then", "8", wordOf(x, FULL));
        for (int i = 2; i <= 12; i++) {
            due("twelve can be said anew", i, x.say(FULL, 0, 1));
        }
    }

    // 7: round.

    private static void roundWord() {
        sentence("7: throws IndexOutOfBoundsException if word is not 0 to 4.");
        edges("round(word)", INDEX, 0, 1, 4, 7, (x, word) -> x.round(word));
    }

    private static void roundOfNoneOneAndTwelve() {
        sentence("7: turns a word round. Returns how many turns it has.");
        CornerCube x = busy();
        due("of none", 0, x.round(EMPTY));
        due("then", "", wordOf(x, EMPTY));
        due("of one", 1, x.round(TURN_THERE));
        due("then", "4", wordOf(x, TURN_THERE));
        due("of an odd number", 7, x.round(SEVEN));
        due("then", "7 0 0 3 5 2 2", wordOf(x, SEVEN));
        due("of twelve", 12, x.round(FULL));
        due("then", "6 4 2 6 3 0 7 4 1 8 5 2", wordOf(x, FULL));
        due("of twelve again", 12, x.round(FULL));
        due("then", "0 3 6 1 4 7 2 5 8 0 4 8", wordOf(x, FULL));
    }

    private static void roundOfEachTurn() {
        sentence("Terms: a word turned round: its turns in the turned order, each with 4 less its quarters.");
        for (int turn = 0; turn < 9; turn++) {
            CornerCube x = withWord(0, turn);
            x.round(0);
            due("of the turn " + turn, turn / 3 * 3 + 2 - turn % 3, x.at(0, 0));
        }
    }

    // 8: join.

    private static void joinA() {
        sentence("8: throws IndexOutOfBoundsException if a is not 0 to 4.");
        edges("join(a, 0)", INDEX, 0, 2, 4, 8, (x, a) -> x.join(a, 0));
    }

    private static void joinB() {
        sentence("8: throws IndexOutOfBoundsException if b is not 0 to 4.");
        edges("join(0, b)", INDEX, 0, 2, 4, 8, (x, b) -> x.join(0, b));
    }

    private static void joinToMoreThanTwelve() {
        sentence("8: throws IllegalStateException if these would be more than 12.");
        refused("join(0, 1), 1 and 12", STATE, BoundaryTest::busy, x -> x.join(TURN_THERE, FULL));
        refused("join(1, 0), 12 and 1", STATE, BoundaryTest::busy, x -> x.join(FULL, TURN_THERE));
        refused("join(3, 4), 6 and 7", STATE, BoundaryTest::busy, x -> x.join(SIX, SEVEN));
        refused("join(4, 3), 7 and 6", STATE, BoundaryTest::busy, x -> x.join(SEVEN, SIX));
        refused("join(1, 1), twice 12", STATE, BoundaryTest::busy, x -> x.join(FULL, FULL));
        refused("join(4, 4), twice 7", STATE, BoundaryTest::busy, x -> x.join(SEVEN, SEVEN));
        refused("join(0, 4), 12 and 12", STATE, BoundaryTest::allFull, x -> x.join(0, 4));
    }

    private static void joinToTwelve() {
        sentence("8: adds all turns of a word to the end of a word; 12 are not more than 12.");
        CornerCube x = busy();
        due("join(2, 1), none and 12", 12, x.join(EMPTY, FULL));
        due("then", "0 3 6 1 4 7 2 5 8 0 4 8", wordOf(x, EMPTY));
        x = busy();
        due("join(1, 2), 12 and none", 12, x.join(FULL, EMPTY));
        due("then", "0 3 6 1 4 7 2 5 8 0 4 8", wordOf(x, FULL));
        say(x, EMPTY, 1, 2, 3, 4, 5);
        due("7 and 5", 12, x.join(SEVEN, EMPTY));
        due("then", "0 0 3 5 2 2 7 1 2 3 4 5", wordOf(x, SEVEN));
        due("b stays", "1 2 3 4 5", wordOf(x, EMPTY));
    }

    private static void joinWithItself() {
        sentence("8: (if both are the same: those that it had).");
        CornerCube x = busy();
        due("of none", 0, x.join(EMPTY, EMPTY));
        due("of one", 2, x.join(TURN_THERE, TURN_THERE));
        due("then", "4 4", wordOf(x, TURN_THERE));
        due("of six", 12, x.join(SIX, SIX));
        due("then", "3 8 3 8 3 8 3 8 3 8 3 8", wordOf(x, SIX));
    }

    private static void joinThrowsTheFirstNamed() {
        sentence("8: if several exceptions apply, the one that is named first is thrown.");
        for (int bad : new int[] {-1, 5}) {
            refused("join(1, " + bad + ") of twelve", INDEX, BoundaryTest::busy, x -> x.join(FULL, bad));
            refused("join(" + bad + ", 1) of twelve", INDEX, BoundaryTest::busy, x -> x.join(bad, FULL));
            refused("join(" + bad + ", " + bad + ")", INDEX, BoundaryTest::busy, x -> x.join(bad, bad));
        }
    }

    // 9: tidy.

    private static void tidyWord() {
        sentence("9: throws IndexOutOfBoundsException if word is not 0 to 4.");
        edges("tidy(word)", INDEX, 0, 1, 4, 1, (x, word) -> x.tidy(word));
    }

    private static void tidyOfNoneAndOfTwelve() {
        sentence("9: takes turns out of a word that can be told by fewer. Returns how many turns it has then.");
        CornerCube x = busy();
        due("of none", 0, x.tidy(EMPTY));
        due("of one", 1, x.tidy(TURN_THERE));
        due("then", "4", wordOf(x, TURN_THERE));
        due("of twelve that are tidy", 12, x.tidy(FULL));
        due("then", "0 3 6 1 4 7 2 5 8 0 4 8", wordOf(x, FULL));
        due("of twelve of one face that are none", 0, withWord(0, 0, 0, 0, 0, 0, 0, 0, 0, 0, 0, 0, 0).tidy(0));
        CornerCube y = withWord(0, 0, 0, 0, 0, 0, 0, 0, 0, 0, 0, 0, 1);
        due("of twelve of one face that are one", 1, y.tidy(0));
        due("then", "0", wordOf(y, 0));
        due("of twelve that do nothing, but have no two side by side", 12, withWord(0, NOTHING).tidy(0));
    }

    private static void tidyByTheRemainderOfFour() {
        sentence("9: two become one, with their quarters together by the remainder of 4, or none, if that is 0.");
        String[] together = {"1", "2", "", "2", "", "0", "", "0", "1"};
        for (int face = 0; face < 3; face++) {
            for (int i = 0; i < 9; i++) {
                CornerCube x = withWord(0, 3 * face + i / 3, 3 * face + i % 3);
                String want = together[i].isEmpty() ? "" : "" + (3 * face + Integer.parseInt(together[i]));
                due("tidy() of the turns " + wordOf(x, 0), want.isEmpty() ? 0 : 1, x.tidy(0));
                due("then", want, wordOf(x, 0));
            }
        }
    }

    private static void tidyLooksAgain() {
        sentence("9: (and it is looked from the beginning again).");
        CornerCube x = withWord(0, 0, 3, 6, 0, 3, 6, 8, 5, 2, 8, 5, 2);
        due("of twelve that take each other away from the middle", 0, x.tidy(0));
        x = withWord(0, 0, 3, 6, 0, 3, 6, 8, 5, 2, 8, 5, 1);
        due("all but the first and the last", 1, x.tidy(0));
        due("then", "2", wordOf(x, 0));
        x = withWord(0, 3, 0, 0, 0, 0, 3, 7, 7, 4, 0);
        due("some, one behind the other", 1, x.tidy(0));
        due("then", "0", wordOf(x, 0));
    }

    private static void tidyTakesNeighboursAlone() {
        sentence("9: as long as there are two turns of the same face side by side.");
        CornerCube x = withWord(0, 0, 3, 2, 5, 0);
        due("of the same face, but not side by side", 5, x.tidy(0));
        due("then", "0 3 2 5 0", wordOf(x, 0));
        x = withWord(0, 2, 3, 8);
        due("of other faces, of numbers side by side", 3, x.tidy(0));
    }

    // 10: told, 11: where.

    private static void toldPlace() {
        sentence("10: throws IndexOutOfBoundsException if place is not 0 to 7.");
        edges("told(place, 0)", INDEX, 0, 0, 7, 3, (x, place) -> x.told(place, 0));
        edges("told(place, 1)", INDEX, 0, 1, 7, 0, (x, place) -> x.told(place, 1));
        edges("told(place, 2)", INDEX, 0, 0, 7, 0, (x, place) -> x.told(place, 2));
    }

    private static void toldWhat() {
        sentence("10: or what is not 0 to 2.");
        edges("told(6, what)", INDEX, 0, 6, 2, 1, (x, what) -> x.told(6, what));
        edges("told(4, what)", INDEX, 0, 7, 2, 0, (x, what) -> x.told(4, what));
        refused("told(-1, -1)", INDEX, BoundaryTest::busy, x -> x.told(-1, -1));
        refused("told(8, 3)", INDEX, BoundaryTest::busy, x -> x.told(8, 3));
    }

    private static void toldTwist() {
        sentence("10: 1 the twist of that (0, 1 or 2).");
        due("0", 0, busy().told(2, 1));
        due("1", 1, busy().told(5, 1));
        due("2", 2, busy().told(1, 1));
    }

    private static void toldRight() {
        sentence("10: 2 1 if it is right, else 0.");
        due("at its place, but twisted", 0, busy().told(0, 2));
        due("not twisted, but elsewhere", 0, busy().told(2, 2));
        due("at its place, not twisted", 1, busy().told(6, 2));
    }

    private static void whereCorner() {
        sentence("11: throws IndexOutOfBoundsException if corner is not 0 to 7.");
        edges("where(corner)", INDEX, 0, 0, 7, 4, (x, corner) -> x.where(corner));
        CornerCube x = turnedBy(4);
        due("where(0)", 7, x.where(0));
        due("where(7)", 0, x.where(7));
    }

    // 12: count.

    private static void countWhat() {
        sentence("12: throws IndexOutOfBoundsException if what is not 0 to 6.");
        edges("count(what)", INDEX, 0, 3, 6, 26, (x, what) -> x.count(what));
        due("all", "3 1 2 4 0 9 26", countsOf(busy()));
    }

    private static void countOfTurnsMade() {
        sentence("12: one of several quarters is one; by play() as well, each one, each time; reset() leaves it.");
        CornerCube x = withWord(1, 2, 5);
        due("at first", 0, x.count(0));
        x.turn(0, 3);
        due("one of three quarters", 1, x.count(0));
        x.play(1, 1);
        due("a word of two, once", 3, x.count(0));
        x.play(1, 50);
        due("a word of two, 50 times", 103, x.count(0));
        x.reset();
        due("behind reset()", 103, x.count(0));
        x.would(0, 1);
        outcome(x, y -> y.turn(3, 1));
        outcome(x, y -> y.turn(0, 4));
        outcome(x, y -> y.play(0, 1));
        outcome(x, y -> y.play(1, 51));
        due("behind calls that turn nothing", 103, x.count(0));
    }

    private static void countOfTheMostTurns() {
        sentence("12: 0 turns that were made in all (the most that 511 calls can make).");
        CornerCube x = withWord(0, LONG_ORDER);
        for (int i = 0; i < 498; i++) {
            x.play(0, 50);
        }
        due("count(0)", 298800, x.count(0));
        due("digest()", 3060045470600994451L, x.digest());
    }

    private static void countOfRight() {
        sentence("12: 1 corners that are right, 2 at the places of their numbers, 3 with the twist 0.");
        due("all", "0 8 8 8 0 1 0", countsOf(new CornerCube()));
        due("the fewest, which are 1", "3 1 1 1 1 30 0", countsOf(turnedBy(3, 2, 6)));
        due("all at their places, one not twisted", "12 1 8 1 0 3 0", countsOf(turnedBy(SEVEN_TWISTED)));
        due("none twisted, four elsewhere", "1 4 4 8 1 4 0", countsOf(turnedBy(0)));
    }

    private static void countOfAnOddOrder() {
        sentence("12: 4 1 if the corners are in an odd order, whatever their twists, else 0.");
        due("none exchanged", 0, new CornerCube().count(4));
        for (int turn = 0; turn < 9; turn++) {
            due("the turn " + turn, turn % 3 == 1 ? 0 : 1, turnedBy(turn).count(4));
        }
        due("none exchanged, but twisted", 0, turnedBy(SEVEN_TWISTED).count(4));
        due("two quarters of two faces", 0, turnedBy(0, 3).count(4));
    }

    private static void countOfTurnsOfWords() {
        sentence("12: 6 turns of all words.");
        due("none", 0, new CornerCube().count(6));
        due("60", 60, allFull().count(6));
        for (int word = 0; word < 5; word++) {
            due("of the word " + word + " alone", 1, withWord(word, 8).count(6));
        }
    }

    // 13: word, 14: at.

    private static void wordWord() {
        sentence("13: throws IndexOutOfBoundsException if word is not 0 to 4.");
        edges("word(word, 0)", INDEX, 0, 1, 4, 7, (x, word) -> x.word(word, 0));
        edges("word(word, 3)", INDEX, 0, 4, 4, 4, (x, word) -> x.word(word, 3));
    }

    private static void wordWhat() {
        sentence("13: or what is not 0 to 3.");
        edges("word(1, what)", INDEX, 0, 12, 3, 6, (x, what) -> x.word(FULL, what));
        edges("word(2, what)", INDEX, 0, 0, 3, 0, (x, what) -> x.word(EMPTY, what));
        refused("word(5, 4)", INDEX, BoundaryTest::busy, x -> x.word(5, 4));
        refused("word(-1, -1)", INDEX, BoundaryTest::busy, x -> x.word(-1, -1));
    }

    private static void wordOfNoneAndOfTwelve() {
        sentence("13: 0 its turns, 1 its order, 2 corners that are not right behind it, 3 not at their places.");
        due("of none", "0 1 0 0", factsOf(busy(), EMPTY));
        due("of twelve", "12 12 7 6", factsOf(busy(), FULL));
        due("of twelve that bring all elsewhere", "12 30 7 7", factsOf(allFull(), 1));
        due("of twelve that twist all", "12 3 7 0", factsOf(allFull(), 2));
        due("of twelve that do nothing", "12 1 0 0", factsOf(allFull(), 3));
        due("of twelve quarters of the top", "12 1 0 0", factsOf(allFull(), 4));
    }

    private static void atWord() {
        sentence("14: throws IndexOutOfBoundsException if word is not 0 to 4.");
        edges("at(word, 0)", INDEX, 0, 4, 4, 0, (x, word) -> x.at(word, 0));
    }

    private static void atPlace() {
        sentence("14: or there is no such place.");
        edges("at(0, at) of one", INDEX, 0, 4, 0, 4, (x, at) -> x.at(TURN_THERE, at));
        edges("at(4, at) of seven", INDEX, 0, 0, 6, 7, (x, at) -> x.at(SEVEN, at));
        edges("at(1, at) of twelve", INDEX, 0, 0, 11, 8, (x, at) -> x.at(FULL, at));
        for (int at : new int[] {-1, 0, 1, 11, 12}) {
            refused("at(2, " + at + ") of none", INDEX, BoundaryTest::busy, x -> x.at(EMPTY, at));
        }
        refused("at(5, 12)", INDEX, BoundaryTest::busy, x -> x.at(5, 12));
        refused("at(-1, -1)", INDEX, BoundaryTest::busy, x -> x.at(-1, -1));
    }

    private static void atBehindTheEnd() {
        sentence("14: or there is no such place (any more).");
        CornerCube x = busy();
        x.tidy(SEVEN);
        due("at(4, 0) behind tidy to one", 7, x.at(SEVEN, 0));
        due("at(4, 1) behind tidy to one", INDEX, outcome(x, y -> y.at(SEVEN, 1)));
        x.wipe(FULL);
        due("at(1, 0) behind wipe", INDEX, outcome(x, y -> y.at(FULL, 0)));
        due("at(1, 11) behind wipe", INDEX, outcome(x, y -> y.at(FULL, 11)));
        x.join(FULL, SIX);
        due("at(1, 5) behind join of six", 8, x.at(FULL, 5));
        due("at(1, 6) behind join of six", INDEX, outcome(x, y -> y.at(FULL, 6)));
    }

    // 15: same, 16: mixed.

    private static void sameA() {
        sentence("15: throws IndexOutOfBoundsException if a is not 0 to 4.");
        edges("same(a, 0)", INDEX, 0, true, 4, false, (x, a) -> x.same(a, 0));
        refused("same(5, -1)", INDEX, BoundaryTest::busy, x -> x.same(5, -1));
    }

    private static void sameB() {
        sentence("15: throws IndexOutOfBoundsException if b is not 0 to 4.");
        edges("same(0, b)", INDEX, 0, true, 4, false, (x, b) -> x.same(0, b));
    }

    private static void sameOfNoneAndOfTwelve() {
        sentence("15: returns whether both do the same.");
        CornerCube x = allFull();
        due("twelve and twelve that do nothing", true, x.same(3, 4));
        due("twelve that twist all and twelve that do nothing", false, x.same(2, 3));
        x.wipe(0);
        due("none and twelve that do nothing", true, x.same(0, 3));
        due("twelve that do nothing and none", true, x.same(4, 0));
        due("none and twelve that twist all", false, x.same(0, 2));
        due("none and itself", true, x.same(0, 0));
        due("twelve and itself", true, x.same(1, 1));
    }

    private static void mixedA() {
        sentence("16: throws IndexOutOfBoundsException if a is not 0 to 4.");
        edges("mixed(a, 3)", INDEX, 0, 2, 4, 2, (x, a) -> x.mixed(a, SIX));
        refused("mixed(5, -1)", INDEX, BoundaryTest::busy, x -> x.mixed(5, -1));
    }

    private static void mixedB() {
        sentence("16: throws IndexOutOfBoundsException if b is not 0 to 4.");
        edges("mixed(1, b)", INDEX, 0, 6, 4, 5, (x, b) -> x.mixed(FULL, b));
    }

    private static void mixedOfNoneAndOfTwelve() {
        sentence("16: not right behind a, then b, then a turned round, then b turned round.");
        CornerCube x = allFull();
        due("twelve and twelve that mix all", 7, x.mixed(0, 1));
        due("the other way", 7, x.mixed(1, 0));
        due("twelve and twelve that mix two", 2, x.mixed(0, 2));
        due("twelve and twelve that do nothing", 0, x.mixed(1, 3));
        due("twelve and itself", 0, x.mixed(1, 1));
        x.wipe(0);
        due("none and twelve", 0, x.mixed(0, 1));
        due("twelve and none", 0, x.mixed(1, 0));
        due("none and none", 0, x.mixed(0, 0));
    }

    // 17: would.

    private static void wouldFace() {
        sentence("17: throws IndexOutOfBoundsException if face is not 0 to 2.");
        edges("would(face, 3)", INDEX, 0, 2, 2, 2, (x, face) -> x.would(face, 3));
        edges("would(face, 1)", INDEX, 0, 1, 2, 1, (x, face) -> x.would(face, 1));
    }

    private static void wouldQuarters() {
        sentence("17: throws IllegalArgumentException if quarters is not 1 to 3.");
        edges("would(0, quarters)", ARGUMENT, 1, 1, 3, 2, (x, quarters) -> x.would(0, quarters));
        edges("would(2, quarters)", ARGUMENT, 1, 1, 3, 2, (x, quarters) -> x.would(2, quarters));
    }

    private static void wouldThrowsTheFirstNamed() {
        sentence("17: if several exceptions apply, the one that is named first is thrown.");
        refused("would(-1, 0)", INDEX, BoundaryTest::busy, x -> x.would(-1, 0));
        refused("would(3, 4)", INDEX, BoundaryTest::busy, x -> x.would(3, 4));
    }

    private static void wouldOfAllAndOfOne() {
        sentence("17: returns how many corners would be right behind this turn (nothing is changed).");
        due("all", 8, turnedBy(6).would(2, 3));
        due("only the one that never moves", 1, turnedBy(0, 3).would(2, 1));
        changesNothing("would(2, 3)", x -> x.would(2, 3));
    }

    // 18: far, 19: first.

    private static void farMost() {
        sentence("18: throws IllegalArgumentException if most is not 0 to 5.");
        edges("far(most)", ARGUMENT, 0, -1, 5, 3, (x, most) -> x.far(most));
    }

    private static void farOfARightCube() {
        sentence("18: returns the fewest turns by which the cube becomes right (none, if it is right).");
        for (int most = 0; most <= 5; most++) {
            due("far(" + most + ")", 0, new CornerCube().far(most));
        }
        due("right again behind twelve turns", 0, turnedBy(NOTHING).far(0));
    }

    private static void farOfMoreThanMost() {
        sentence("18: -1 if these are more than that (nothing is changed).");
        int[] row = {0, 3, 0, 3, 0, 6};
        for (int turns = 1; turns <= 6; turns++) {
            CornerCube x = turnedBy(Arrays.copyOf(row, turns));
            for (int most = 0; most <= 5; most++) {
                due("far(" + most + ") of a cube " + turns + " away", most < turns ? -1 : turns, x.far(most));
            }
        }
        due("far(5) of a cube that is all twisted", -1, turnedBy(SEVEN_TWISTED).far(5));
        changesNothing("far(5)", x -> x.far(5));
        changesNothing("far(0)", x -> x.far(0));
    }

    private static void firstMost() {
        sentence("19: throws IllegalArgumentException if most is not 0 to 5.");
        edges("first(most)", ARGUMENT, 0, -1, 5, 8, (x, most) -> x.first(most));
    }

    private static void firstOfARightCube() {
        sentence("19: -1 if it is right.");
        for (int most = 0; most <= 5; most++) {
            due("first(" + most + ")", -1, new CornerCube().first(most));
        }
    }

    private static void firstOfMoreThanMost() {
        sentence("19: or these are more than that (nothing is changed).");
        int[] row = {0, 3, 0, 3, 0, 6};
        int[] begin = {0, 2, 5, 2, 5, 2};
        for (int turns = 1; turns <= 6; turns++) {
            CornerCube x = turnedBy(Arrays.copyOf(row, turns));
            for (int most = 0; most <= 5; most++) {
                due("first(" + most + ") of a cube " + turns + " away", most < turns ? -1 : begin[turns],
                        x.first(most));
            }
        }
        changesNothing("first(5)", x -> x.first(5));
        changesNothing("first(0)", x -> x.first(0));
    }

    private static void firstOfEachTurn() {
        sentence("19: the number of the turn with which a row of the fewest turns begins (0 to 8).");
        for (int turn = 0; turn < 9; turn++) {
            due("of a cube turned by " + turn, turn / 3 * 3 + 2 - turn % 3, turnedBy(turn).first(5));
        }
        due("the last of all turns, two away", 8, turnedBy(2, 6).first(2));
    }

    private static void firstOfSeveral() {
        sentence("19: of several the smallest.");
        due("1 and 4", 1, turnedBy(4, 1, 4).first(3));
        due("1 and 7", 1, turnedBy(7, 1, 7).first(3));
        due("4 and 7", 4, turnedBy(4, 7, 4).first(3));
        due("1, 4 and 8", 1, turnedBy(8, 1, 4, 1).first(4));
        due("6 and 8, both of the front", 6, turnedBy(7, 2, 4, 8).first(4));
        due("0 and 8, five away", 0, turnedBy(0, 3, 6, 5, 2).first(5));
        due("2, 5 and 8, five away", 2, turnedBy(0, 3, 1, 6, 0).first(5));
        due("5 and 8, five away", 5, turnedBy(3, 6, 0, 6, 3).first(5));
    }

    // 20: shortest.

    private static void shortestWord() {
        sentence("20: throws IndexOutOfBoundsException if word is not 0 to 4.");
        edges("shortest(word, 5)", INDEX, 0, 1, 4, 1, (x, word) -> x.shortest(word, 5));
    }

    private static void shortestMost() {
        sentence("20: throws IllegalArgumentException if most is not 0 to 5.");
        edges("shortest(0, most)", ARGUMENT, 0, -1, 5, 1, (x, most) -> x.shortest(TURN_THERE, most));
        edges("shortest(2, most)", ARGUMENT, 0, 0, 5, 0, (x, most) -> x.shortest(EMPTY, most));
    }

    private static void shortestThrowsTheFirstNamed() {
        sentence("20: if several exceptions apply, the one that is named first is thrown.");
        for (int most : new int[] {-1, 6}) {
            refused("shortest(-1, " + most + ")", INDEX, BoundaryTest::busy, x -> x.shortest(-1, most));
            refused("shortest(5, " + most + ")", INDEX, BoundaryTest::busy, x -> x.shortest(5, most));
        }
    }

    private static void shortestOfMoreThanMost() {
        sentence("20: -1 if these are more than that.");
        int[] row = {0, 3, 0, 3, 0, 6};
        for (int turns = 1; turns <= 6; turns++) {
            CornerCube x = withWord(4, Arrays.copyOf(row, turns));
            for (int most = 0; most <= 5; most++) {
                due("shortest(4, " + most + ") of " + turns, most < turns ? -1 : turns, x.shortest(4, most));
            }
        }
    }

    private static void shortestOfNoneAndOfTwelve() {
        sentence("20: returns the fewest turns that do the same as the word.");
        for (int most = 0; most <= 5; most++) {
            due("of none, most " + most, 0, busy().shortest(EMPTY, most));
            due("of twelve that do nothing, most " + most, 0, allFull().shortest(3, most));
            due("of twelve that mix all, most " + most, -1, allFull().shortest(1, most));
        }
        due("of twelve of one face", 1, withWord(0, 0, 0, 0, 0, 0, 0, 0, 0, 0, 0, 0, 1).shortest(0, 1));
        changesNothing("shortest(4, 5)", x -> x.shortest(SEVEN, 5));
    }

    // 21: advise, 22: mean.

    private static void adviseOfEachTurn() {
        sentence("21: returns the number of the turn behind which the most corners would be right (0 to 8).");
        for (int turn = 0; turn < 9; turn++) {
            due("of a cube turned by " + turn, turn / 3 * 3 + 2 - turn % 3, turnedBy(turn).advise());
        }
    }

    private static void adviseOfSeveral() {
        sentence("21: of several the smallest.");
        due("0 and 8 are as good", 0, turnedBy(2, 6).advise());
        due("5 and 8 are as good", 5, turnedBy(3, 2, 6).advise());
        due("2, 4 and 8 are as good", 2, busy().advise());
    }

    private static void adviseOfFewer() {
        sentence("21: also if fewer are right then than now (nothing is changed).");
        due("all nine are as good, and leave four of eight", 0, new CornerCube().advise());
        fewerOrAsMany("by 5 three of four", turnedBy(1, 3, 1), 5, 4, 3);
        fewerOrAsMany("by 8 three of four", turnedBy(1, 6, 1), 8, 4, 3);
        fewerOrAsMany("by 3, 4 and 5 three of four", turnedBy(0, 4, 2), 3, 4, 3);
        fewerOrAsMany("by 7 four of four", turnedBy(1, 4, 1), 7, 4, 4);
        changesNothing("advise()", CornerCube::advise);
    }

    private static void fewerOrAsMany(String what, CornerCube x, int best, int rightNow, int rightThen) {
        due(what + ": count(1)", rightNow, x.count(1));
        due(what + ": would() of the best", rightThen, x.would(best / 3, best % 3 + 1));
        due(what + ": advise()", best, x.advise());
    }

    private static void meanOfNoneAndOfTwelve() {
        sentence("22: returns the mean of how many turns words have.");
        due("none", 0.0, new CornerCube().mean());
        due("one of one word", 0.2, withWord(4, 0).mean());
        due("26 of five words", 5.2, busy().mean());
        due("twelve of each word", 12.0, allFull().mean());
        CornerCube x = allFull();
        x.wipe(2);
        say(x, 2, 0, 1, 2, 3, 4, 5, 6, 7, 8, 0, 1);
        due("one less", 11.8, x.mean());
    }

    // 23: digest.

    /** The sum without wrapping, and then the whole of it that 64 bits hold. */
    private static long wrapped(CornerCube x) {
        BigInteger d = BigInteger.valueOf(1787);
        StringBuilder numbers = new StringBuilder(countsOf(x));
        for (int place = 0; place < 8; place++) {
            numbers.append(' ').append(x.told(place, 0)).append(' ').append(x.told(place, 1));
            numbers.append(' ').append(x.told(place, 2));
        }
        for (int word = 0; word < 5; word++) {
            numbers.append(' ').append(factsOf(x, word));
            numbers.append(x.word(word, 0) == 0 ? "" : " ").append(wordOf(x, word));
        }
        for (String number : numbers.toString().split(" ")) {
            d = d.multiply(BigInteger.valueOf(31)).add(new BigInteger(number));
        }
        return d.longValue();
    }

    private static void digestWrapsAround() {
        sentence("23: which wraps around as a 64-bit integer.");
        due("of a new object", 7854983149462064901L, new CornerCube().digest());
        due("of a busy one, where it is below 0", -4226268012189747210L, busy().digest());
        due("of five words of twelve turns", 1942162035873921813L, allFull().digest());
        due("of a new object, by large numbers", wrapped(new CornerCube()), new CornerCube().digest());
        due("of a busy one, by large numbers", wrapped(busy()), busy().digest());
        due("of five words of twelve turns, by large numbers", wrapped(allFull()), allFull().digest());
    }

    private static void digestOfNoTurns() {
        sentence("23: for each word what word() tells, then its turns as at() tells them.");
        CornerCube x = new CornerCube();
        long none = x.digest();
        say(x, 4, 0);
        due("a turn of the number 0 tells", false, x.digest() == none);
        x.wipe(4);
        due("behind wipe, as at first", none, x.digest());
    }

    private static void askingChangesNothing() {
        sentence("Not promised: nothing beyond the answers and state changes described.");
        changesNothing("all that asks", x -> cubeOf(x) + countsOf(x) + wordOf(x, FULL) + factsOf(x, SIX)
                + x.where(7) + x.same(0, 1) + x.mixed(0, 1) + x.mean() + x.digest());
    }

    public static void main(String[] args) {
        terms();
        cube();
        words();
        whatThereIs();
        whatWouldBe();
        System.out.println(wrong == 0 ? "all boundaries hold" : wrong + " answers are not as due");
        if (wrong != 0) {
            System.exit(1);
        }
    }

    private static void terms() {
        theLastPlaceOfARingGoesToTheFirst();
        twistsGoByTheRemainderOfThree();
        fourQuartersAreNone();
        theNumberOfATurn();
        anOrderIsOneOrMore();
        theOrderOfARightCubeIsOne();
    }

    private static void cube() {
        aNewCubeIsRight();
        aNewObjectHasFiveWordsWithoutTurns();
        objectsShareNothing();
        turnFace();
        turnQuarters();
        turnThrowsTheFirstNamed();
        turnCountsTheRight();
        playWord();
        playTimes();
        playWithoutTurns();
        playThrowsTheFirstNamed();
        playsTwelveFiftyTimes();
        resetOfARightCube();
        resetLeavesWords();
    }

    private static void words() {
        sayWord();
        sayFace();
        sayQuarters();
        sayOfTheThirteenth();
        sayThrowsTheFirstNamed();
        wipeWord();
        wipeOfNoneAndOfTwelve();
        roundWord();
        roundOfNoneOneAndTwelve();
        roundOfEachTurn();
        joinA();
        joinB();
        joinToMoreThanTwelve();
        joinToTwelve();
        joinWithItself();
        joinThrowsTheFirstNamed();
        tidyWord();
        tidyOfNoneAndOfTwelve();
        tidyByTheRemainderOfFour();
        tidyLooksAgain();
        tidyTakesNeighboursAlone();
    }

    private static void whatThereIs() {
        toldPlace();
        toldWhat();
        toldTwist();
        toldRight();
        whereCorner();
        countWhat();
        countOfTurnsMade();
        countOfTheMostTurns();
        countOfRight();
        countOfAnOddOrder();
        countOfTurnsOfWords();
        wordWord();
        wordWhat();
        wordOfNoneAndOfTwelve();
        atWord();
        atPlace();
        atBehindTheEnd();
        sameA();
        sameB();
        sameOfNoneAndOfTwelve();
        mixedA();
        mixedB();
        mixedOfNoneAndOfTwelve();
    }

    private static void whatWouldBe() {
        wouldFace();
        wouldQuarters();
        wouldThrowsTheFirstNamed();
        wouldOfAllAndOfOne();
        farMost();
        farOfARightCube();
        farOfMoreThanMost();
        firstMost();
        firstOfARightCube();
        firstOfMoreThanMost();
        firstOfEachTurn();
        firstOfSeveral();
        shortestWord();
        shortestMost();
        shortestThrowsTheFirstNamed();
        shortestOfMoreThanMost();
        shortestOfNoneAndOfTwelve();
        adviseOfEachTurn();
        adviseOfSeveral();
        adviseOfFewer();
        meanOfNoneAndOfTwelve();
        digestWrapsAround();
        digestOfNoTurns();
        askingChangesNothing();
    }
}
