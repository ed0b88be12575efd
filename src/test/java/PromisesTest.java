import java.util.Arrays;

/** Each promise with answers worked out by hand from the document: ordinary inputs, edges, wrong inputs. */
public final class PromisesTest {
    private static final int[] NOT_FACES = {-1, 3, Integer.MIN_VALUE, Integer.MAX_VALUE};
    private static final int[] NOT_QUARTERS = {-1, 0, 4, Integer.MIN_VALUE, Integer.MAX_VALUE};
    private static final int[] NOT_WORDS = {-1, 5, Integer.MIN_VALUE, Integer.MAX_VALUE};
    private static final int[] NOT_PLACES = {-1, 8, Integer.MIN_VALUE, Integer.MAX_VALUE};
    private static final int[] NOT_MOST = {-1, 6, Integer.MIN_VALUE, Integer.MAX_VALUE};

    private static final String INDEX = "IndexOutOfBoundsException";
    private static final String ARGUMENT = "IllegalArgumentException";
    private static final String STATE = "IllegalStateException";

    private static int wrong = 0;

    private interface Call {
        long answer();
    }

    private static void due(String what, long want, long got) {
        if (got != want) {
            wrong++;
            System.out.println(what + " answered " + got + ", due is " + want);
        }
    }

    private static void dueMean(String what, double want, double got) {
        if (got != want) {
            wrong++;
            System.out.println(what + " answered " + got + ", due is " + want);
        }
    }

    /** The call throws this very exception, and changes nothing. */
    private static void refused(CornerCube x, String what, String want, Call call) {
        long before = x.digest();
        String got = "nothing";
        try {
            call.answer();
        } catch (RuntimeException e) {
            got = e.getClass().getSimpleName();
        }
        if (!got.equals(want)) {
            wrong++;
            System.out.println(what + " threw " + got + ", due is " + want);
        }
        due("digest() behind the refused " + what, before, x.digest());
    }

    private static void cubeIs(String what, CornerCube x, int[] corners, int[] twists) {
        int[] gotCorners = new int[8];
        int[] gotTwists = new int[8];
        for (int place = 0; place < 8; place++) {
            gotCorners[place] = x.told(place, 0);
            gotTwists[place] = x.told(place, 1);
        }
        if (!Arrays.equals(corners, gotCorners) || !Arrays.equals(twists, gotTwists)) {
            wrong++;
            System.out.println(what + ": the cube is " + Arrays.toString(gotCorners) + " with the twists "
                    + Arrays.toString(gotTwists) + ", due is " + Arrays.toString(corners) + " with "
                    + Arrays.toString(twists));
        }
    }

    private static void wordIs(String what, CornerCube x, int word, int... turns) {
        due(what + ": the turns of the word " + word, turns.length, x.word(word, 0));
        for (int i = 0; i < turns.length && i < x.word(word, 0); i++) {
            due(what + ": at(" + word + ", " + i + ")", turns[i], x.at(word, i));
        }
    }

    private static void sayAll(CornerCube x, int word, int... turns) {
        for (int turn : turns) {
            x.say(word, turn / 3, turn % 3 + 1);
        }
    }

    private static CornerCube withWord(int word, int... turns) {
        CornerCube x = new CornerCube();
        sayAll(x, word, turns);
        return x;
    }

    private static CornerCube turnedBy(int... turns) {
        CornerCube x = new CornerCube();
        for (int turn : turns) {
            x.turn(turn / 3, turn % 3 + 1);
        }
        return x;
    }

    private static void aNewObject() {
        CornerCube x = new CornerCube();
        cubeIs("new", x, new int[] {0, 1, 2, 3, 4, 5, 6, 7}, new int[8]);
        for (int word = 0; word < 5; word++) {
            wordIs("new", x, word);
        }
        due("count(0) at first", 0, x.count(0));
    }

    private static void turn() {
        CornerCube x = new CornerCube();
        due("turn(0, 1)", 4, x.turn(0, 1));
        cubeIs("turn(0, 1)", x, new int[] {3, 0, 1, 2, 4, 5, 6, 7}, new int[8]);
        x = new CornerCube();
        due("turn(1, 1)", 4, x.turn(1, 1));
        cubeIs("turn(1, 1)", x, new int[] {4, 1, 2, 0, 7, 5, 6, 3}, new int[] {2, 0, 0, 1, 1, 0, 0, 2});
        x = new CornerCube();
        due("turn(2, 1)", 4, x.turn(2, 1));
        cubeIs("turn(2, 1)", x, new int[] {1, 5, 2, 3, 0, 4, 6, 7}, new int[] {1, 2, 0, 0, 2, 1, 0, 0});
        x = new CornerCube();
        due("turn(1, 2)", 4, x.turn(1, 2));
        cubeIs("turn(1, 2)", x, new int[] {7, 1, 2, 4, 3, 5, 6, 0}, new int[8]);
        x = new CornerCube();
        due("turn(0, 3)", 4, x.turn(0, 3));
        cubeIs("turn(0, 3)", x, new int[] {1, 2, 3, 0, 4, 5, 6, 7}, new int[8]);
        due("turn(0, 1) behind turn(0, 3)", 8, x.turn(0, 1));
        // One twist upon another, by the remainder of 3.
        x = turnedBy(3, 6);
        cubeIs("right, then front", x, new int[] {1, 5, 2, 0, 4, 7, 6, 3}, new int[] {1, 2, 0, 1, 1, 2, 0, 2});
        final CornerCube y = turnedBy(3, 6);
        for (int face : NOT_FACES) {
            refused(y, "turn(" + face + ", 1)", INDEX, () -> y.turn(face, 1));
            refused(y, "turn(" + face + ", 0)", INDEX, () -> y.turn(face, 0));
        }
        for (int quarters : NOT_QUARTERS) {
            refused(y, "turn(2, " + quarters + ")", ARGUMENT, () -> y.turn(2, quarters));
        }
    }

    private static void play() {
        CornerCube x = withWord(0, 0);
        due("play(0, 1)", 4, x.play(0, 1));
        due("play(0, 50)", 4, x.play(0, 50));
        cubeIs("51 quarters of the top", x, new int[] {1, 2, 3, 0, 4, 5, 6, 7}, new int[8]);
        due("count(0) behind play", 51, x.count(0));
        due("play(0, 1) again", 8, x.play(0, 1));
        x = withWord(4, 3, 6);
        due("play(4, 1)", 2, x.play(4, 1));
        cubeIs("right, then front", x, new int[] {1, 5, 2, 0, 4, 7, 6, 3}, new int[] {1, 2, 0, 1, 1, 2, 0, 2});
        due("count(0) behind a word of two", 2, x.count(0));
        wordIs("play", x, 4, 3, 6);
        final CornerCube y = withWord(0, 0);
        for (int word : NOT_WORDS) {
            refused(y, "play(" + word + ", 1)", INDEX, () -> y.play(word, 1));
            refused(y, "play(" + word + ", 0)", INDEX, () -> y.play(word, 0));
        }
        for (int times : new int[] {0, 51, -1, Integer.MIN_VALUE, Integer.MAX_VALUE}) {
            refused(y, "play(0, " + times + ")", ARGUMENT, () -> y.play(0, times));
            refused(y, "play(1, " + times + ")", ARGUMENT, () -> y.play(1, times));
        }
        refused(y, "play(1, 1)", STATE, () -> y.play(1, 1));
    }

    private static void reset() {
        CornerCube x = withWord(3, 0, 4);
        due("reset() of a right cube", 0, x.reset());
        x.turn(0, 1);
        x.turn(1, 1);
        due("reset()", 6, x.reset());
        cubeIs("reset", x, new int[] {0, 1, 2, 3, 4, 5, 6, 7}, new int[8]);
        wordIs("reset", x, 3, 0, 4);
        due("count(0) behind reset()", 2, x.count(0));
        // The corners at their places, but twisted, are not right.
        x = withWord(0, 3, 8);
        x.play(0, 15);
        due("reset() of six twisted", 6, x.reset());
    }

    private static void say() {
        CornerCube x = new CornerCube();
        due("say(0, 0, 1)", 1, x.say(0, 0, 1));
        due("say(0, 1, 2)", 2, x.say(0, 1, 2));
        due("say(0, 2, 3)", 3, x.say(0, 2, 3));
        due("say(4, 2, 1)", 1, x.say(4, 2, 1));
        wordIs("say", x, 0, 0, 4, 8);
        wordIs("say", x, 4, 6);
        wordIs("say", x, 1);
        due("count(0) behind say", 0, x.count(0));
        final CornerCube y = withWord(2, 0, 1, 2, 3, 4, 5, 6, 7, 8, 0, 1);
        for (int word : NOT_WORDS) {
            refused(y, "say(" + word + ", 0, 1)", INDEX, () -> y.say(word, 0, 1));
            refused(y, "say(" + word + ", 0, 0)", INDEX, () -> y.say(word, 0, 0));
        }
        for (int face : NOT_FACES) {
            refused(y, "say(0, " + face + ", 1)", INDEX, () -> y.say(0, face, 1));
            refused(y, "say(0, " + face + ", 4)", INDEX, () -> y.say(0, face, 4));
        }
        for (int quarters : NOT_QUARTERS) {
            refused(y, "say(0, 0, " + quarters + ")", ARGUMENT, () -> y.say(0, 0, quarters));
        }
        due("say() of the twelfth", 12, y.say(2, 0, 3));
        refused(y, "say() of a thirteenth", STATE, () -> y.say(2, 0, 1));
        refused(y, "say() of a thirteenth of no face", INDEX, () -> y.say(2, 3, 1));
        refused(y, "say() of a thirteenth of no quarters", ARGUMENT, () -> y.say(2, 0, 0));
        wordIs("full", y, 2, 0, 1, 2, 3, 4, 5, 6, 7, 8, 0, 1, 2);
    }

    private static void wipe() {
        CornerCube x = withWord(1, 0, 3, 6);
        sayAll(x, 2, 5);
        due("wipe(1)", 3, x.wipe(1));
        due("wipe(1) again", 0, x.wipe(1));
        wordIs("wipe", x, 1);
        wordIs("wipe", x, 2, 5);
        x.say(1, 2, 2);
        wordIs("say behind wipe", x, 1, 7);
        for (int word : NOT_WORDS) {
            refused(x, "wipe(" + word + ")", INDEX, () -> x.wipe(word));
        }
    }

    private static void round() {
        CornerCube x = withWord(0, 0, 4, 8);
        due("round(0)", 3, x.round(0));
        wordIs("round of three", x, 0, 6, 4, 2);
        sayAll(x, 1, 3, 2);
        due("round(1)", 2, x.round(1));
        wordIs("round of two", x, 1, 0, 5);
        sayAll(x, 2, 6);
        due("round(2)", 1, x.round(2));
        wordIs("round of one", x, 2, 8);
        due("round(3)", 0, x.round(3));
        wordIs("round of none", x, 3);
        sayAll(x, 4, 0, 1, 2, 3, 4, 5, 6, 7, 8, 0, 1, 2);
        due("round(4)", 12, x.round(4));
        wordIs("round of twelve", x, 4, 0, 1, 2, 6, 7, 8, 3, 4, 5, 0, 1, 2);
        for (int word : NOT_WORDS) {
            refused(x, "round(" + word + ")", INDEX, () -> x.round(word));
        }
    }

    private static void join() {
        CornerCube x = withWord(0, 0, 4);
        sayAll(x, 1, 8, 1, 3);
        due("join(0, 1)", 5, x.join(0, 1));
        wordIs("join", x, 0, 0, 4, 8, 1, 3);
        wordIs("join", x, 1, 8, 1, 3);
        due("join(1, 1)", 6, x.join(1, 1));
        wordIs("join with itself", x, 1, 8, 1, 3, 8, 1, 3);
        due("join(1, 2)", 6, x.join(1, 2));
        due("join(2, 1)", 6, x.join(2, 1));
        wordIs("join to none", x, 2, 8, 1, 3, 8, 1, 3);
        due("join() to twelve", 12, x.join(1, 2));
        wordIs("join to twelve", x, 1, 8, 1, 3, 8, 1, 3, 8, 1, 3, 8, 1, 3);
        due("join(1, 3) of none to twelve", 12, x.join(1, 3));
        refused(x, "join(1, 0)", STATE, () -> x.join(1, 0));
        refused(x, "join(1, 1) of twelve", STATE, () -> x.join(1, 1));
        sayAll(x, 2, 0);
        refused(x, "join(2, 2) of seven", STATE, () -> x.join(2, 2));
        for (int word : NOT_WORDS) {
            refused(x, "join(" + word + ", 1)", INDEX, () -> x.join(word, 1));
            refused(x, "join(1, " + word + ")", INDEX, () -> x.join(1, word));
        }
    }

    private static void tidy() {
        CornerCube x = withWord(0, 0, 3, 0);
        due("tidy() of a tidy word", 3, x.tidy(0));
        wordIs("tidy stays", x, 0, 0, 3, 0);
        x = withWord(0, 0, 0);
        due("tidy() of 1 and 1", 1, x.tidy(0));
        wordIs("1 and 1", x, 0, 1);
        x = withWord(0, 5, 4);
        due("tidy() of 3 and 2", 1, x.tidy(0));
        wordIs("3 and 2", x, 0, 3);
        x = withWord(0, 7, 7);
        due("tidy() of 2 and 2", 0, x.tidy(0));
        x = withWord(1, 6, 6, 6);
        due("tidy() of three", 1, x.tidy(1));
        wordIs("three", x, 1, 8);
        x = withWord(2, 1, 3, 7, 7, 5, 2, 6);
        due("tidy() that comes together", 2, x.tidy(2));
        wordIs("come together", x, 2, 0, 6);
        x = withWord(3, 0, 2, 0);
        due("tidy() of 1, 3 and 1", 1, x.tidy(3));
        wordIs("1, 3 and 1", x, 3, 0);
        x = withWord(4, 0, 0, 0, 0, 0, 0, 0, 0, 0, 0, 0, 0);
        due("tidy() of twelve", 0, x.tidy(4));
        due("tidy() of none", 0, x.tidy(4));
        final CornerCube y = x;
        for (int word : NOT_WORDS) {
            refused(y, "tidy(" + word + ")", INDEX, () -> y.tidy(word));
        }
    }

    private static void told() {
        CornerCube x = turnedBy(3);
        due("told(0, 0)", 4, x.told(0, 0));
        due("told(0, 1)", 2, x.told(0, 1));
        due("told(0, 2)", 0, x.told(0, 2));
        due("told(7, 0)", 3, x.told(7, 0));
        due("told(7, 1)", 2, x.told(7, 1));
        due("told(6, 2)", 1, x.told(6, 2));
        // At its place, but twisted.
        x = withWord(0, 3, 8);
        x.play(0, 15);
        due("told(0, 0) of a twisted one", 0, x.told(0, 0));
        due("told(0, 2) of a twisted one", 0, x.told(0, 2));
        // Not twisted, but elsewhere.
        CornerCube y = turnedBy(0);
        due("told(0, 2) of one that is elsewhere", 0, y.told(0, 2));
        for (int place : NOT_PLACES) {
            refused(y, "told(" + place + ", 0)", INDEX, () -> y.told(place, 0));
        }
        for (int what : new int[] {-1, 3, Integer.MIN_VALUE, Integer.MAX_VALUE}) {
            refused(y, "told(0, " + what + ")", INDEX, () -> y.told(0, what));
        }
    }

    private static void where() {
        CornerCube x = turnedBy(3);
        int[] places = {3, 1, 2, 7, 0, 5, 6, 4};
        for (int corner = 0; corner < 8; corner++) {
            due("where(" + corner + ")", places[corner], x.where(corner));
        }
        for (int corner : NOT_PLACES) {
            refused(x, "where(" + corner + ")", INDEX, () -> x.where(corner));
        }
    }

    private static void countsAre(String what, CornerCube x, int... counts) {
        for (int i = 0; i < counts.length; i++) {
            due(what + ": count(" + i + ")", counts[i], x.count(i));
        }
    }

    private static void count() {
        countsAre("new", new CornerCube(), 0, 8, 8, 8, 0, 1, 0);
        countsAre("top", turnedBy(0), 1, 4, 4, 8, 1, 4, 0);
        countsAre("top twice", turnedBy(1), 1, 4, 4, 8, 0, 2, 0);
        countsAre("right", turnedBy(3), 1, 4, 4, 4, 1, 4, 0);
        countsAre("top, right", turnedBy(0, 3), 2, 2, 3, 4, 0, 15, 0);
        // A ring of three and one of four, both twisted: the greatest order there is.
        due("count(5) of the greatest order", 36, turnedBy(0, 5, 6, 4).count(5));
        CornerCube x = withWord(0, 3, 8);
        sayAll(x, 4, 0, 1, 2);
        x.play(0, 15);
        countsAre("six twisted", x, 30, 2, 8, 2, 0, 3, 5);
        x.reset();
        countsAre("reset", x, 30, 8, 8, 8, 0, 1, 5);
        for (int what : new int[] {-1, 7, Integer.MIN_VALUE, Integer.MAX_VALUE}) {
            refused(x, "count(" + what + ")", INDEX, () -> x.count(what));
        }
    }

    private static void factsAre(CornerCube x, int word, int... facts) {
        for (int what = 0; what < facts.length; what++) {
            due("word(" + word + ", " + what + ")", facts[what], x.word(word, what));
        }
    }

    private static void word() {
        CornerCube x = withWord(0, 3, 0, 5, 2);
        sayAll(x, 1, 0);
        sayAll(x, 2, 3, 5);
        sayAll(x, 3, 0, 3);
        // What the cube is does not matter to what a word does.
        x.turn(2, 1);
        factsAre(x, 0, 4, 6, 4, 4);
        factsAre(x, 1, 1, 4, 4, 4);
        factsAre(x, 2, 2, 1, 0, 0);
        factsAre(x, 3, 2, 15, 6, 5);
        factsAre(x, 4, 0, 1, 0, 0);
        // Three times right and front back: all at their places, six of them twisted.
        sayAll(x, 4, 3, 8, 3, 8, 3, 8);
        factsAre(x, 4, 6, 3, 6, 0);
        for (int word : NOT_WORDS) {
            refused(x, "word(" + word + ", 0)", INDEX, () -> x.word(word, 0));
        }
        for (int what : new int[] {-1, 4, Integer.MIN_VALUE, Integer.MAX_VALUE}) {
            refused(x, "word(0, " + what + ")", INDEX, () -> x.word(0, what));
        }
    }

    private static void at() {
        CornerCube x = withWord(2, 0, 4, 8);
        due("at(2, 0)", 0, x.at(2, 0));
        due("at(2, 1)", 4, x.at(2, 1));
        due("at(2, 2)", 8, x.at(2, 2));
        for (int word : NOT_WORDS) {
            refused(x, "at(" + word + ", 0)", INDEX, () -> x.at(word, 0));
        }
        for (int at : new int[] {-1, 3, 11, 12, Integer.MIN_VALUE, Integer.MAX_VALUE}) {
            refused(x, "at(2, " + at + ")", INDEX, () -> x.at(2, at));
        }
        refused(x, "at(0, 0) of no turns", INDEX, () -> x.at(0, 0));
        sayAll(x, 2, 1, 2, 3, 5, 6, 7, 0, 3, 6);
        due("at(2, 11)", 6, x.at(2, 11));
        refused(x, "at(2, 12) of twelve", INDEX, () -> x.at(2, 12));
        x.wipe(2);
        refused(x, "at(2, 0) behind wipe", INDEX, () -> x.at(2, 0));
    }

    private static long asNumber(boolean answer) {
        return answer ? 1 : 0;
    }

    private static void same() {
        CornerCube x = withWord(0, 1, 4, 1);
        sayAll(x, 1, 4, 1, 4);
        sayAll(x, 2, 4, 1);
        sayAll(x, 3, 0, 2);
        due("same() of top, right, top and right, top, right, by halves", 1, asNumber(x.same(0, 1)));
        due("same(0, 2)", 0, asNumber(x.same(0, 2)));
        due("same(2, 2)", 1, asNumber(x.same(2, 2)));
        due("same() of there and back and nothing", 1, asNumber(x.same(3, 4)));
        due("same(4, 0)", 0, asNumber(x.same(4, 0)));
        // All at the same places, but not with the same twists.
        CornerCube y = withWord(0, 3, 8, 3, 8, 3, 8);
        due("same() of twisted and nothing", 0, asNumber(y.same(0, 1)));
        for (int word : NOT_WORDS) {
            refused(x, "same(" + word + ", 0)", INDEX, () -> asNumber(x.same(word, 0)));
            refused(x, "same(0, " + word + ")", INDEX, () -> asNumber(x.same(0, word)));
        }
    }

    private static void mixed() {
        CornerCube x = withWord(0, 3);
        sayAll(x, 1, 0);
        sayAll(x, 2, 0, 0);
        x.turn(2, 1);
        due("mixed(0, 1)", 4, x.mixed(0, 1));
        due("mixed(1, 0)", 4, x.mixed(1, 0));
        due("mixed(1, 2) of the same face", 0, x.mixed(1, 2));
        due("mixed(0, 0)", 0, x.mixed(0, 0));
        due("mixed(0, 4) with nothing", 0, x.mixed(0, 4));
        due("mixed(4, 4) of nothing", 0, x.mixed(4, 4));
        for (int word : NOT_WORDS) {
            refused(x, "mixed(" + word + ", 0)", INDEX, () -> x.mixed(word, 0));
            refused(x, "mixed(0, " + word + ")", INDEX, () -> x.mixed(0, word));
        }
    }

    private static void would() {
        CornerCube x = turnedBy(0);
        long before = x.digest();
        due("would(0, 1)", 4, x.would(0, 1));
        due("would(0, 2)", 4, x.would(0, 2));
        due("would(0, 3)", 8, x.would(0, 3));
        due("would(1, 1)", 2, x.would(1, 1));
        due("digest() behind would()", before, x.digest());
        for (int face : NOT_FACES) {
            refused(x, "would(" + face + ", 1)", INDEX, () -> x.would(face, 1));
            refused(x, "would(" + face + ", 0)", INDEX, () -> x.would(face, 0));
        }
        for (int quarters : NOT_QUARTERS) {
            refused(x, "would(0, " + quarters + ")", ARGUMENT, () -> x.would(0, quarters));
        }
    }

    private static void far() {
        CornerCube x = new CornerCube();
        for (int most = 0; most <= 5; most++) {
            due("far(" + most + ") of a right cube", 0, x.far(most));
        }
        due("far(0) of one turn", -1, turnedBy(4).far(0));
        due("far(1) of one turn", 1, turnedBy(4).far(1));
        due("far(5) of one turn", 1, turnedBy(4).far(5));
        due("far(1) of two turns", -1, turnedBy(0, 3).far(1));
        due("far(2) of two turns", 2, turnedBy(0, 3).far(2));
        due("far(5) of turns of one face", 1, turnedBy(0, 1).far(5));
        due("far(4) of five turns", -1, turnedBy(0, 4, 6, 1, 3).far(4));
        due("far(5) of five turns", 5, turnedBy(0, 4, 6, 1, 3).far(5));
        due("far(5) of nine turns", -1, turnedBy(0, 3, 6, 0, 3, 6, 1, 4, 7).far(5));
        CornerCube y = turnedBy(0, 3, 6);
        long before = y.digest();
        due("far(5) of three turns", 3, y.far(5));
        due("digest() behind far()", before, y.digest());
        for (int most : NOT_MOST) {
            refused(y, "far(" + most + ")", ARGUMENT, () -> y.far(most));
        }
    }

    private static void first() {
        for (int most = 0; most <= 5; most++) {
            due("first(" + most + ") of a right cube", -1, new CornerCube().first(most));
        }
        due("first(0) of one turn", -1, turnedBy(4).first(0));
        for (int turn = 0; turn < 9; turn++) {
            due("first(1) of the turn " + turn, turn / 3 * 3 + 2 - turn % 3, turnedBy(turn).first(1));
        }
        due("first(1) of two turns", -1, turnedBy(0, 3).first(1));
        due("first(2) of two turns", 5, turnedBy(0, 3).first(2));
        due("first(5) of two turns", 5, turnedBy(0, 3).first(5));
        // By halves, top, right, top and right, top, right are the same: the smaller of the two begins.
        due("first(3) of two rows", 1, turnedBy(1, 4, 1).first(3));
        due("first(5) of two rows", 1, turnedBy(4, 1, 4).first(5));
        due("first(5) of nine turns", -1, turnedBy(0, 3, 6, 0, 3, 6, 1, 4, 7).first(5));
        CornerCube y = turnedBy(0, 3, 6);
        long before = y.digest();
        due("first(3) of three turns", 8, y.first(3));
        due("digest() behind first()", before, y.digest());
        for (int most : NOT_MOST) {
            refused(y, "first(" + most + ")", ARGUMENT, () -> y.first(most));
        }
    }

    private static void shortest() {
        CornerCube x = withWord(0, 0, 3, 6);
        sayAll(x, 1, 0, 3, 5, 0);
        sayAll(x, 2, 0, 3, 6, 0, 3, 6, 1, 4, 7);
        sayAll(x, 3, 0, 4, 6, 1, 3);
        x.turn(1, 2);
        due("shortest(0, 2)", -1, x.shortest(0, 2));
        due("shortest(0, 3)", 3, x.shortest(0, 3));
        due("shortest(0, 5)", 3, x.shortest(0, 5));
        due("shortest(1, 0) of a half", -1, x.shortest(1, 0));
        due("shortest(1, 1) of a half", 1, x.shortest(1, 1));
        due("shortest(2, 5) of nine", -1, x.shortest(2, 5));
        due("shortest(3, 5) of five", 5, x.shortest(3, 5));
        due("shortest(4, 0) of nothing", 0, x.shortest(4, 0));
        wordIs("shortest", x, 1, 0, 3, 5, 0);
        for (int word : NOT_WORDS) {
            refused(x, "shortest(" + word + ", 1)", INDEX, () -> x.shortest(word, 1));
            refused(x, "shortest(" + word + ", 6)", INDEX, () -> x.shortest(word, 6));
        }
        for (int most : NOT_MOST) {
            refused(x, "shortest(0, " + most + ")", ARGUMENT, () -> x.shortest(0, most));
        }
    }

    private static void advise() {
        // Each turn leaves four right of the eight: the smallest is told all the same.
        due("advise() of a right cube", 0, new CornerCube().advise());
        for (int turn = 0; turn < 9; turn++) {
            due("advise() behind the turn " + turn, turn / 3 * 3 + 2 - turn % 3, turnedBy(turn).advise());
        }
        CornerCube x = turnedBy(0, 3);
        long before = x.digest();
        due("would(0, 3) of two turns", 4, x.would(0, 3));
        due("would(1, 3) of two turns", 4, x.would(1, 3));
        due("advise() of two turns, where 2 and 5 are as good", 2, x.advise());
        CornerCube y = turnedBy(0, 4, 2);
        due("count(1) of top, right by a half, top back", 4, y.count(1));
        due("would(1, 1) of it, with fewer right", 3, y.would(1, 1));
        due("advise() of it", 3, y.advise());
        due("digest() behind advise()", before, x.digest());
    }

    private static void mean() {
        CornerCube x = new CornerCube();
        dueMean("mean() of none", 0.0, x.mean());
        sayAll(x, 0, 0);
        dueMean("mean() of 1", 0.2, x.mean());
        sayAll(x, 4, 0, 1);
        dueMean("mean() of 1 and 2", 0.6, x.mean());
        sayAll(x, 4, 0, 1, 2, 3, 4, 5, 6, 7, 8, 0);
        dueMean("mean() of 1 and 12", 2.6, x.mean());
        for (int word = 0; word < 4; word++) {
            x.wipe(word);
            x.join(word, 4);
        }
        dueMean("mean() of twelve each", 12.0, x.mean());
    }

    private static long digestOf(int... numbers) {
        long d = 1787;
        for (int number : numbers) {
            d = d * 31 + number;
        }
        return d;
    }

    private static void digest() {
        due("digest() at first", digestOf(
                0, 8, 8, 8, 0, 1, 0,
                0, 0, 1, 1, 0, 1, 2, 0, 1, 3, 0, 1, 4, 0, 1, 5, 0, 1, 6, 0, 1, 7, 0, 1,
                0, 1, 0, 0, 0, 1, 0, 0, 0, 1, 0, 0, 0, 1, 0, 0, 0, 1, 0, 0), new CornerCube().digest());
        CornerCube x = turnedBy(3);
        sayAll(x, 1, 0, 3);
        sayAll(x, 4, 8);
        due("digest()", digestOf(
                1, 4, 4, 4, 1, 4, 3,
                4, 2, 0, 1, 0, 1, 2, 0, 1, 0, 1, 0, 7, 1, 0, 5, 0, 1, 6, 0, 1, 3, 2, 0,
                0, 1, 0, 0,
                2, 15, 6, 5, 0, 3,
                0, 1, 0, 0,
                0, 1, 0, 0,
                1, 4, 4, 4, 8), x.digest());
        due("digest() again", x.digest(), x.digest());
    }

    public static void main(String[] args) {
        aNewObject();
        turn();
        play();
        reset();
        say();
        wipe();
        round();
        join();
        tidy();
        told();
        where();
        count();
        word();
        at();
        same();
        mixed();
        would();
        far();
        first();
        shortest();
        advise();
        mean();
        digest();
        System.out.println(wrong == 0 ? "all promises hold" : wrong + " answers are not as due");
        if (wrong != 0) {
            System.exit(1);
        }
    }
}
