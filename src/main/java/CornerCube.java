/**
 * A cube of eight corners that is turned.
 *
 * <p>A cube is held as one long, so that looking ahead by turns makes no objects: place p is the
 * byte at the bits 8p to 8p+7, whose low three bits are the corner and whose next two its twist.
 * The cube that a row of turns makes of the right one also tells what the row does as one deed: the
 * corner at a place is then the place that it came from, and the twist what it gets on the way.
 */
public final class CornerCube {
    private static final int PLACES = 8;
    private static final int FACES = 3;
    private static final int TWISTS = 3;
    private static final int QUARTERS = 4;
    private static final int TURNS_OF_FACE = 3;
    private static final int TURNS = 9;
    private static final int RING_PLACES = 4;
    private static final int WORDS = 5;
    private static final int LONGEST_WORD = 12;
    private static final int MOST_TIMES = 50;
    private static final int FARTHEST = 5;
    private static final int PLACE_FACTS = 3;
    private static final int CUBE_FACTS = 7;
    private static final int WORD_FACTS = 4;

    private static final long RIGHT = 0x0706050403020100L;

    // The places that a quarter of a face goes round, a hex digit each, each to the next and the
    // last to the first; and the twist that a corner gets as it leaves the place above it.
    private static final int TOP_RING = 0x0123;
    private static final int TOP_TWIST = 0x0000;
    private static final int RIGHT_RING = 0x0374;
    private static final int RIGHT_TWIST = 0x1212;
    private static final int FRONT_RING = 0x0451;
    private static final int FRONT_TWIST = 0x2121;

    // No order of the seven corners that move is above 36; this only bounds the loop.
    private static final int ORDER_BOUND = 1000;

    private static final int NO_FACE = -1;

    private long cube;
    private int turnsMade;
    private final int[][] turnsOf;
    private final int[] lengths;

    public CornerCube() {
        cube = RIGHT;
        turnsMade = 0;
        turnsOf = new int[WORDS][LONGEST_WORD];
        lengths = new int[WORDS];
    }

    // ---- the cube

    public int turn(int face, int quarters) throws IndexOutOfBoundsException, IllegalArgumentException {
        checkFace(face);
        checkQuarters(quarters);
        cube = turned(cube, turnNumber(face, quarters));
        turnsMade++;
        return rightCorners(cube);
    }

    public int play(int word, int times)
            throws IndexOutOfBoundsException, IllegalArgumentException, IllegalStateException {
        checkWord(word);
        if (times < 1 || times > MOST_TIMES) {
            throw new IllegalArgumentException("times is not 1 to 50");
        }
        if (lengths[word] == 0) {
            throw new IllegalStateException("the word has no turns");
        }
        for (int i = 0; i < times; i++) {
            cube = behindWord(cube, word);
        }
        turnsMade += times * lengths[word];
        return rightCorners(cube);
    }

    public int reset() {
        int wrong = wrongCorners(cube);
        cube = RIGHT;
        return wrong;
    }

    // ---- words

    public int say(int word, int face, int quarters)
            throws IndexOutOfBoundsException, IllegalArgumentException, IllegalStateException {
        checkWord(word);
        checkFace(face);
        checkQuarters(quarters);
        if (lengths[word] >= LONGEST_WORD) {
            throw new IllegalStateException("the word has 12 turns");
        }
        turnsOf[word][lengths[word]] = turnNumber(face, quarters);
        lengths[word]++;
        return lengths[word];
    }

    public int wipe(int word) throws IndexOutOfBoundsException {
        checkWord(word);
        int length = lengths[word];
        lengths[word] = 0;
        return length;
    }

    public int round(int word) throws IndexOutOfBoundsException {
        checkWord(word);
        int[] row = turnsOf[word];
        // The turn in the middle of an odd number meets itself: it is turned back once, not twice.
        for (int i = 0, j = lengths[word] - 1; i <= j; i++, j--) {
            int turn = row[i];
            row[i] = turnedBack(row[j]);
            row[j] = turnedBack(turn);
        }
        return lengths[word];
    }

    public int join(int a, int b) throws IndexOutOfBoundsException, IllegalStateException {
        checkWord(a);
        checkWord(b);
        int more = lengths[b];
        if (lengths[a] + more > LONGEST_WORD) {
            throw new IllegalStateException("these would be more than 12 turns");
        }
        for (int i = 0; i < more; i++) {
            turnsOf[a][lengths[a] + i] = turnsOf[b][i];
        }
        lengths[a] += more;
        return lengths[a];
    }

    public int tidy(int word) throws IndexOutOfBoundsException {
        checkWord(word);
        // The turns before i that are kept are tidy among themselves, so the first two of the same
        // face are always the last one kept and the next one: one pass does what looking from the
        // beginning again does.
        int kept = 0;
        for (int i = 0; i < lengths[word]; i++) {
            kept = keep(turnsOf[word], kept, turnsOf[word][i]);
        }
        lengths[word] = kept;
        return kept;
    }

    // ---- what there is

    public int told(int place, int what) throws IndexOutOfBoundsException {
        checkPlace(place);
        checkWhat(what, PLACE_FACTS);
        if (what == 0) {
            return cornerAt(cube, place);
        }
        if (what == 1) {
            return twistAt(cube, place);
        }
        return isRight(cube, place) ? 1 : 0;
    }

    public int where(int corner) throws IndexOutOfBoundsException {
        if (corner < 0 || corner >= PLACES) {
            throw new IndexOutOfBoundsException("corner is not 0 to 7");
        }
        int place = 0;
        while (place < PLACES - 1 && cornerAt(cube, place) != corner) {
            place++;
        }
        return place;
    }

    public int count(int what) throws IndexOutOfBoundsException {
        checkWhat(what, CUBE_FACTS);
        switch (what) {
            case 0:
                return turnsMade;
            case 1:
                return rightCorners(cube);
            case 2:
                return placedCorners(cube);
            case 3:
                return untwistedCorners(cube);
            case 4:
                return pairsOutOfOrder(cube) % 2;
            case 5:
                return orderOf(cube);
            default:
                return turnsOfAllWords();
        }
    }

    public int word(int word, int what) throws IndexOutOfBoundsException {
        checkWord(word);
        checkWhat(what, WORD_FACTS);
        switch (what) {
            case 0:
                return lengths[word];
            case 1:
                return orderOf(deedOf(word));
            case 2:
                return wrongCorners(deedOf(word));
            default:
                return PLACES - placedCorners(deedOf(word));
        }
    }

    public int at(int word, int at) throws IndexOutOfBoundsException {
        checkWord(word);
        if (at < 0 || at >= lengths[word]) {
            throw new IndexOutOfBoundsException("the word has no such place");
        }
        return turnsOf[word][at];
    }

    public boolean same(int a, int b) throws IndexOutOfBoundsException {
        checkWord(a);
        checkWord(b);
        return deedOf(a) == deedOf(b);
    }

    public int mixed(int a, int b) throws IndexOutOfBoundsException {
        checkWord(a);
        checkWord(b);
        long there = behindWord(deedOf(a), b);
        return wrongCorners(behindWordRound(behindWordRound(there, a), b));
    }

    // ---- what would be

    public int would(int face, int quarters) throws IndexOutOfBoundsException, IllegalArgumentException {
        checkFace(face);
        checkQuarters(quarters);
        return rightCorners(turned(cube, turnNumber(face, quarters)));
    }

    public int far(int most) throws IllegalArgumentException {
        checkMost(most);
        return fewestTurns(cube, most);
    }

    public int first(int most) throws IllegalArgumentException {
        checkMost(most);
        int fewest = fewestTurns(cube, most);
        for (int turn = 0; fewest > 0 && turn < TURNS; turn++) {
            if (isRightWithin(turned(cube, turn), fewest - 1, faceOf(turn))) {
                return turn;
            }
        }
        return -1;
    }

    public int shortest(int word, int most) throws IndexOutOfBoundsException, IllegalArgumentException {
        checkWord(word);
        checkMost(most);
        // A row that does the same as the word, turned round, is one that undoes it, as long.
        return fewestTurns(deedOf(word), most);
    }

    public int advise() {
        int best = 0;
        int mostRight = -1;
        for (int turn = 0; turn < TURNS; turn++) {
            int right = rightCorners(turned(cube, turn));
            if (right > mostRight) {
                best = turn;
                mostRight = right;
            }
        }
        return best;
    }

    public double mean() {
        return (double) turnsOfAllWords() / WORDS;
    }

    public long digest() {
        long d = 1787;
        for (int what = 0; what < CUBE_FACTS; what++) {
            d = d * 31 + count(what);
        }
        for (int place = 0; place < PLACES; place++) {
            for (int what = 0; what < PLACE_FACTS; what++) {
                d = d * 31 + told(place, what);
            }
        }
        for (int word = 0; word < WORDS; word++) {
            for (int what = 0; what < WORD_FACTS; what++) {
                d = d * 31 + word(word, what);
            }
            for (int i = 0; i < lengths[word]; i++) {
                d = d * 31 + turnsOf[word][i];
            }
        }
        return d;
    }

    // What a call may be given.

    private static void checkFace(int face) {
        if (face < 0 || face >= FACES) {
            throw new IndexOutOfBoundsException("face is not 0 to 2");
        }
    }

    private static void checkQuarters(int quarters) {
        if (quarters < 1 || quarters >= QUARTERS) {
            throw new IllegalArgumentException("quarters is not 1 to 3");
        }
    }

    private static void checkWord(int word) {
        if (word < 0 || word >= WORDS) {
            throw new IndexOutOfBoundsException("word is not 0 to 4");
        }
    }

    private static void checkPlace(int place) {
        if (place < 0 || place >= PLACES) {
            throw new IndexOutOfBoundsException("place is not 0 to 7");
        }
    }

    private static void checkWhat(int what, int facts) {
        if (what < 0 || what >= facts) {
            throw new IndexOutOfBoundsException("there is no such what");
        }
    }

    private static void checkMost(int most) {
        if (most < 0 || most > FARTHEST) {
            throw new IllegalArgumentException("most is not 0 to 5");
        }
    }

    // Turns by their numbers.

    private static int turnNumber(int face, int quarters) {
        return TURNS_OF_FACE * face + quarters - 1;
    }

    private static int faceOf(int turn) {
        return turn / TURNS_OF_FACE;
    }

    private static int quartersOf(int turn) {
        return turn % TURNS_OF_FACE + 1;
    }

    private static int turnedBack(int turn) {
        return turnNumber(faceOf(turn), QUARTERS - quartersOf(turn));
    }

    /** Puts a turn behind the first {@code kept} of a row, or into the last of them; how many there are then. */
    private static int keep(int[] row, int kept, int turn) {
        if (kept == 0 || faceOf(row[kept - 1]) != faceOf(turn)) {
            row[kept] = turn;
            return kept + 1;
        }
        int quarters = (quartersOf(row[kept - 1]) + quartersOf(turn)) % QUARTERS;
        if (quarters == 0) {
            return kept - 1;
        }
        row[kept - 1] = turnNumber(faceOf(turn), quarters);
        return kept;
    }

    // Words as deeds.

    private long deedOf(int word) {
        return behindWord(RIGHT, word);
    }

    private long behindWord(long from, int word) {
        long now = from;
        for (int i = 0; i < lengths[word]; i++) {
            now = turned(now, turnsOf[word][i]);
        }
        return now;
    }

    private long behindWordRound(long from, int word) {
        long now = from;
        for (int i = lengths[word] - 1; i >= 0; i--) {
            now = turned(now, turnedBack(turnsOf[word][i]));
        }
        return now;
    }

    private int turnsOfAllWords() {
        int all = 0;
        for (int word = 0; word < WORDS; word++) {
            all += lengths[word];
        }
        return all;
    }

    // Cubes: what one of them is.

    private static int cornerAt(long cube, int place) {
        return (int) (cube >>> (8 * place)) & 7;
    }

    private static int twistAt(long cube, int place) {
        return (int) (cube >>> (8 * place + 3)) & 3;
    }

    private static boolean isRight(long cube, int place) {
        return cornerAt(cube, place) == place && twistAt(cube, place) == 0;
    }

    private static int rightCorners(long cube) {
        int right = 0;
        for (int place = 0; place < PLACES; place++) {
            if (isRight(cube, place)) {
                right++;
            }
        }
        return right;
    }

    private static int wrongCorners(long cube) {
        return PLACES - rightCorners(cube);
    }

    private static int placedCorners(long cube) {
        int placed = 0;
        for (int place = 0; place < PLACES; place++) {
            if (cornerAt(cube, place) == place) {
                placed++;
            }
        }
        return placed;
    }

    private static int untwistedCorners(long cube) {
        int untwisted = 0;
        for (int place = 0; place < PLACES; place++) {
            if (twistAt(cube, place) == 0) {
                untwisted++;
            }
        }
        return untwisted;
    }

    /** How many pairs of corners stand the greater first: odd where the corners are in an odd order. */
    private static int pairsOutOfOrder(long cube) {
        int pairs = 0;
        for (int i = 0; i < PLACES; i++) {
            for (int j = i + 1; j < PLACES; j++) {
                if (cornerAt(cube, i) > cornerAt(cube, j)) {
                    pairs++;
                }
            }
        }
        return pairs;
    }

    private static int orderOf(long deed) {
        int times = 1;
        long now = deed;
        while (now != RIGHT && times < ORDER_BOUND) {
            now = behindDeed(now, deed);
            times++;
        }
        return times;
    }

    // Cubes: what becomes of one of them.

    private static long withCorner(long cube, int place, int corner, int twist) {
        long others = cube & ~(0xffL << (8 * place));
        long here = ((twist % TWISTS) << 3) | corner;
        return others | (here << (8 * place));
    }

    private static long turned(long cube, int turn) {
        long now = cube;
        for (int i = 0; i < quartersOf(turn); i++) {
            now = quarterTurned(now, faceOf(turn));
        }
        return now;
    }

    private static long quarterTurned(long cube, int face) {
        int ring = ringOf(face);
        int moreTwist = moreTwistOf(face);
        long now = cube;
        for (int i = 0; i < RING_PLACES; i++) {
            int from = hexDigit(ring, i);
            int to = hexDigit(ring, (i + 1) % RING_PLACES);
            now = withCorner(now, to, cornerAt(cube, from), twistAt(cube, from) + hexDigit(moreTwist, i));
        }
        return now;
    }

    private static int ringOf(int face) {
        switch (face) {
            case 0:
                return TOP_RING;
            case 1:
                return RIGHT_RING;
            default:
                return FRONT_RING;
        }
    }

    private static int moreTwistOf(int face) {
        switch (face) {
            case 0:
                return TOP_TWIST;
            case 1:
                return RIGHT_TWIST;
            default:
                return FRONT_TWIST;
        }
    }

    private static int hexDigit(int fourDigits, int at) {
        return (fourDigits >> (4 * (RING_PLACES - 1 - at))) & 15;
    }

    private static long behindDeed(long cube, long deed) {
        long now = cube;
        for (int place = 0; place < PLACES; place++) {
            int from = cornerAt(deed, place);
            now = withCorner(now, place, cornerAt(cube, from), twistAt(cube, from) + twistAt(deed, place));
        }
        return now;
    }

    // How far a cube is from being right.

    private static int fewestTurns(long cube, int most) {
        for (int turns = 0; turns <= most; turns++) {
            if (isRightWithin(cube, turns, NO_FACE)) {
                return turns;
            }
        }
        return -1;
    }

    /** Whether so many turns or fewer set a cube right, the first of them not of the face that was turned last. */
    private static boolean isRightWithin(long cube, int turns, int lastFace) {
        if (cube == RIGHT) {
            return true;
        }
        if (turns <= 0 || wrongCorners(cube) > mostSetRight(turns)) {
            return false;
        }
        for (int face = 0; face < FACES; face++) {
            // Two turns of one face are one or none: no row of the fewest turns has them side by side.
            if (face != lastFace && isRightBeginning(cube, face, turns)) {
                return true;
            }
        }
        return false;
    }

    private static boolean isRightBeginning(long cube, int face, int turns) {
        long now = cube;
        for (int quarters = 1; quarters < QUARTERS; quarters++) {
            now = quarterTurned(now, face);
            if (isRightWithin(now, turns - 1, face)) {
                return true;
            }
        }
        return false;
    }

    /** How many corners so many turns can set right: a face has four places, two faces together six. */
    private static int mostSetRight(int turns) {
        if (turns == 1) {
            return 4;
        }
        return turns == 2 ? 6 : PLACES;
    }
}
