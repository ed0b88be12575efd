import java.util.ArrayDeque;
import java.util.ArrayList;
import java.util.Arrays;
import java.util.HashMap;
import java.util.List;
import java.util.Map;

/**
 * Long runs of calls, each answer held against a slow model that follows the document's words: arrays
 * for the cube, orders by doing again, and how far a cube is by all cubes up to five turns away.
 */
public final class ModelTest {
    private static final int RUNS = 300;
    /** With the digest at the end, the 512 that the document promises. */
    private static final int CALLS = 511;
    private static final int MOST_TOLD = 20;
    private static final int[] STRANGE = {-1, Integer.MIN_VALUE, Integer.MAX_VALUE, 100};

    private static final int[][] WAYS = {{0, 1, 2, 3}, {0, 3, 7, 4}, {0, 4, 5, 1}};
    private static final int[][] MORE = {{0, 0, 0, 0}, {1, 2, 1, 2}, {2, 1, 2, 1}};

    private static final Map<String, Integer> DISTANCES = distances();

    /** A cube as the document tells it. */
    private static final class Cube {
        int[] corners = {0, 1, 2, 3, 4, 5, 6, 7};
        int[] twists = new int[8];

        Cube copy() {
            Cube other = new Cube();
            other.corners = corners.clone();
            other.twists = twists.clone();
            return other;
        }

        void quarter(int face) {
            int[] way = WAYS[face];
            Cube old = copy();
            for (int i = 0; i < 4; i++) {
                int to = way[(i + 1) % 4];
                corners[to] = old.corners[way[i]];
                twists[to] = (old.twists[way[i]] + MORE[face][i]) % 3;
            }
        }

        Cube turned(int turn) {
            Cube other = copy();
            for (int i = 0; i <= turn % 3; i++) {
                other.quarter(turn / 3);
            }
            return other;
        }

        Cube turned(List<Integer> turns) {
            Cube other = this;
            for (int turn : turns) {
                other = other.turned(turn);
            }
            return other;
        }

        boolean isRight(int place) {
            return corners[place] == place && twists[place] == 0;
        }

        int right() {
            int n = 0;
            for (int place = 0; place < 8; place++) {
                n += isRight(place) ? 1 : 0;
            }
            return n;
        }

        int placed() {
            int n = 0;
            for (int place = 0; place < 8; place++) {
                n += corners[place] == place ? 1 : 0;
            }
            return n;
        }

        int untwisted() {
            int n = 0;
            for (int twist : twists) {
                n += twist == 0 ? 1 : 0;
            }
            return n;
        }

        /** Brings the corners home by exchanges of two, and counts these. */
        int exchanges() {
            int[] now = corners.clone();
            int n = 0;
            for (int place = 0; place < 8; place++) {
                while (now[place] != place) {
                    int other = now[place];
                    now[place] = now[other];
                    now[other] = other;
                    n++;
                }
            }
            return n;
        }

        /** Each corner's way round, alone: the length of its ring, thrice if a round twists it. */
        int order() {
            int order = 1;
            for (int start = 0; start < 8; start++) {
                int length = 0;
                int twist = 0;
                int place = start;
                do {
                    twist += twists[place];
                    place = corners[place];
                    length++;
                } while (place != start);
                order = leastCommonMultiple(order, twist % 3 == 0 ? length : 3 * length);
            }
            return order;
        }

        String key() {
            return Arrays.toString(corners) + Arrays.toString(twists);
        }

        int far(int most) {
            Integer distance = DISTANCES.get(key());
            return distance == null || distance > most ? -1 : distance;
        }

        int first(int most) {
            int far = far(most);
            for (int turn = 0; far > 0 && turn < 9; turn++) {
                if (turned(turn).far(5) == far - 1) {
                    return turn;
                }
            }
            return -1;
        }

        int advise() {
            int best = 0;
            for (int turn = 1; turn < 9; turn++) {
                if (turned(turn).right() > turned(best).right()) {
                    best = turn;
                }
            }
            return best;
        }
    }

    private static int leastCommonMultiple(int a, int b) {
        int multiple = a;
        while (multiple % b != 0) {
            multiple += a;
        }
        return multiple;
    }

    private static Map<String, Integer> distances() {
        Map<String, Integer> distances = new HashMap<>();
        ArrayDeque<Cube> open = new ArrayDeque<>();
        Cube right = new Cube();
        distances.put(right.key(), 0);
        open.add(right);
        while (!open.isEmpty()) {
            Cube cube = open.remove();
            int far = distances.get(cube.key());
            for (int turn = 0; far < 5 && turn < 9; turn++) {
                Cube next = cube.turned(turn);
                if (distances.putIfAbsent(next.key(), far + 1) == null) {
                    open.add(next);
                }
            }
        }
        return distances;
    }

    private static void check(boolean index, boolean argument, boolean state) {
        if (index) {
            throw new IndexOutOfBoundsException();
        }
        if (argument) {
            throw new IllegalArgumentException();
        }
        if (state) {
            throw new IllegalStateException();
        }
    }

    private static boolean not(int x, int from, int to) {
        return x < from || x > to;
    }

    /** The whole object by the document's words. */
    private static final class Model {
        Cube cube = new Cube();
        int made = 0;
        final List<List<Integer>> words = new ArrayList<>();

        Model() {
            for (int i = 0; i < 5; i++) {
                words.add(new ArrayList<>());
            }
        }

        Cube deed(int word) {
            return new Cube().turned(words.get(word));
        }

        static List<Integer> round(List<Integer> turns) {
            List<Integer> other = new ArrayList<>();
            for (int turn : turns) {
                other.add(0, turn / 3 * 3 + (4 - (turn % 3 + 1)) - 1);
            }
            return other;
        }

        int allTurns() {
            int n = 0;
            for (List<Integer> turns : words) {
                n += turns.size();
            }
            return n;
        }

        static boolean tidyOnce(List<Integer> turns) {
            for (int i = 0; i + 1 < turns.size(); i++) {
                if (turns.get(i) / 3 == turns.get(i + 1) / 3) {
                    int second = turns.remove(i + 1);
                    int first = turns.remove(i);
                    int quarters = (first % 3 + 1 + second % 3 + 1) % 4;
                    if (quarters > 0) {
                        turns.add(i, first / 3 * 3 + quarters - 1);
                    }
                    return true;
                }
            }
            return false;
        }

        int count(int what) {
            int[] facts = {made, cube.right(), cube.placed(), cube.untwisted(), cube.exchanges() % 2,
                cube.order(), allTurns()};
            return facts[what];
        }

        int told(int place, int what) {
            int[] facts = {cube.corners[place], cube.twists[place], cube.isRight(place) ? 1 : 0};
            return facts[what];
        }

        int word(int word, int what) {
            Cube deed = deed(word);
            int[] facts = {words.get(word).size(), deed.order(), 8 - deed.right(), 8 - deed.placed()};
            return facts[what];
        }

        long digest() {
            long d = 1787;
            for (int what = 0; what < 7; what++) {
                d = d * 31 + count(what);
            }
            for (int place = 0; place < 8; place++) {
                for (int what = 0; what < 3; what++) {
                    d = d * 31 + told(place, what);
                }
            }
            for (int word = 0; word < 5; word++) {
                for (int what = 0; what < 4; what++) {
                    d = d * 31 + word(word, what);
                }
                for (int turn : words.get(word)) {
                    d = d * 31 + turn;
                }
            }
            return d;
        }

        int play(int word, int times) {
            for (int i = 0; i < times; i++) {
                cube = cube.turned(words.get(word));
                made += words.get(word).size();
            }
            return cube.right();
        }

        int mixed(int a, int b) {
            Cube there = deed(a).turned(words.get(b));
            return 8 - there.turned(round(words.get(a))).turned(round(words.get(b))).right();
        }

        long answer(int call, int a, int b, int c) {
            switch (call) {
                case 0:
                    check(not(a, 0, 2), not(b, 1, 3), false);
                    cube = cube.turned(3 * a + b - 1);
                    made++;
                    return cube.right();
                case 1:
                    check(not(a, 0, 4), not(b, 1, 50), !not(a, 0, 4) && words.get(a).isEmpty());
                    return play(a, b);
                case 2:
                    int wrong = 8 - cube.right();
                    cube = new Cube();
                    return wrong;
                case 3:
                    check(not(a, 0, 4) || not(b, 0, 2), not(c, 1, 3), !not(a, 0, 4) && words.get(a).size() == 12);
                    words.get(a).add(3 * b + c - 1);
                    return words.get(a).size();
                case 4:
                    check(not(a, 0, 4), false, false);
                    int size = words.get(a).size();
                    words.get(a).clear();
                    return size;
                case 5:
                    check(not(a, 0, 4), false, false);
                    words.set(a, round(words.get(a)));
                    return words.get(a).size();
                case 6:
                    check(not(a, 0, 4) || not(b, 0, 4), false, false);
                    check(false, false, words.get(a).size() + words.get(b).size() > 12);
                    words.get(a).addAll(new ArrayList<>(words.get(b)));
                    return words.get(a).size();
                case 7:
                    check(not(a, 0, 4), false, false);
                    while (tidyOnce(words.get(a))) {
                        continue;
                    }
                    return words.get(a).size();
                default:
                    return asked(call, a, b, c);
            }
        }

        private long asked(int call, int a, int b, int c) {
            switch (call) {
                case 8:
                    check(not(a, 0, 7) || not(b, 0, 2), false, false);
                    return told(a, b);
                case 9:
                    check(not(a, 0, 7), false, false);
                    int place = 0;
                    while (cube.corners[place] != a) {
                        place++;
                    }
                    return place;
                case 10:
                    check(not(a, 0, 6), false, false);
                    return count(a);
                case 11:
                    check(not(a, 0, 4) || not(b, 0, 3), false, false);
                    return word(a, b);
                case 12:
                    check(not(a, 0, 4) || not(b, 0, words.get(a).size() - 1), false, false);
                    return words.get(a).get(b);
                case 13:
                    check(not(a, 0, 4) || not(b, 0, 4), false, false);
                    return deed(a).key().equals(deed(b).key()) ? 1 : 0;
                case 14:
                    check(not(a, 0, 4) || not(b, 0, 4), false, false);
                    return mixed(a, b);
                case 15:
                    check(not(a, 0, 2), not(b, 1, 3), false);
                    return cube.turned(3 * a + b - 1).right();
                case 16:
                    check(false, not(a, 0, 5), false);
                    return cube.far(a);
                case 17:
                    check(false, not(a, 0, 5), false);
                    return cube.first(a);
                case 18:
                    check(not(a, 0, 4), not(b, 0, 5), false);
                    return deed(a).far(b);
                case 19:
                    return cube.advise();
                case 20:
                    return Double.doubleToLongBits(allTurns() / 5.0);
                default:
                    return digest();
            }
        }
    }

    private static final String[] NAMES = {"turn", "play", "reset", "say", "wipe", "round", "join", "tidy", "told",
        "where", "count", "word", "at", "same", "mixed", "would", "far", "first", "shortest", "advise", "mean",
        "digest"};
    private static final int[] ARGUMENTS = {2, 2, 0, 3, 1, 1, 2, 1, 2, 1, 1, 2, 2, 2, 2, 2, 1, 1, 2, 0, 0, 0};
    /** How far beyond the last good one an argument goes: one argument a row's entry. */
    private static final int[][] ENDS = {{3, 4}, {5, 51}, {}, {5, 3, 4}, {5}, {5}, {5, 5}, {5}, {8, 3}, {8}, {7},
        {5, 4}, {5, 12}, {5, 5}, {5, 5}, {3, 4}, {6}, {6}, {5, 6}, {}, {}, {}};
    /** How often a call comes, so that cubes stay near enough and words get long enough. */
    private static final int[] SHARES = {10, 3, 4, 30, 3, 4, 5, 4, 3, 2, 5, 6, 3, 4, 5, 4, 9, 9, 8, 4, 2, 6};

    private static long answerOf(CornerCube x, int call, int a, int b, int c) {
        switch (call) {
            case 0: return x.turn(a, b);
            case 1: return x.play(a, b);
            case 2: return x.reset();
            case 3: return x.say(a, b, c);
            case 4: return x.wipe(a);
            case 5: return x.round(a);
            case 6: return x.join(a, b);
            case 7: return x.tidy(a);
            case 8: return x.told(a, b);
            case 9: return x.where(a);
            case 10: return x.count(a);
            case 11: return x.word(a, b);
            case 12: return x.at(a, b);
            case 13: return x.same(a, b) ? 1 : 0;
            case 14: return x.mixed(a, b);
            case 15: return x.would(a, b);
            case 16: return x.far(a);
            case 17: return x.first(a);
            case 18: return x.shortest(a, b);
            case 19: return x.advise();
            case 20: return Double.doubleToLongBits(x.mean());
            default: return x.digest();
        }
    }

    private static String told(CornerCube x, int call, int[] p) {
        try {
            return Long.toString(answerOf(x, call, p[0], p[1], p[2]));
        } catch (RuntimeException e) {
            return "throws." + e.getClass().getSimpleName();
        }
    }

    private static String due(Model x, int call, int[] p) {
        try {
            return Long.toString(x.answer(call, p[0], p[1], p[2]));
        } catch (RuntimeException e) {
            return "throws." + e.getClass().getSimpleName();
        }
    }

    private static long seed = 20261119L;

    /** A fixed row of numbers that look mixed, the same in each run. */
    private static int next(int bound) {
        seed = seed * 6364136223846793005L + 1442695040888963407L;
        return (int) ((seed >>> 33) % bound);
    }

    private static int nextCall() {
        int sum = 0;
        for (int share : SHARES) {
            sum += share;
        }
        int left = next(sum);
        int call = 0;
        while (left >= SHARES[call]) {
            left -= SHARES[call];
            call++;
        }
        return call;
    }

    /** Good arguments for the most part, now and then one just outside, or far outside. */
    private static int[] nextArguments(int call) {
        int[] p = new int[3];
        for (int i = 0; i < ARGUMENTS[call]; i++) {
            int kind = next(40);
            p[i] = kind == 0 ? STRANGE[next(STRANGE.length)]
                : kind < 3 ? next(ENDS[call][i] + 2) - 1 : next(ENDS[call][i]);
        }
        return p;
    }

    private static int wrong = 0;

    private static void run(int run) {
        CornerCube x = new CornerCube();
        Model model = new Model();
        for (int i = 0; i < CALLS; i++) {
            int call = nextCall();
            int[] p = nextArguments(call);
            String want = due(model, call, p);
            String got = told(x, call, p);
            if (!want.equals(got)) {
                wrong++;
                System.out.println("run " + run + ", call " + i + ": " + NAMES[call]
                        + Arrays.toString(Arrays.copyOf(p, ARGUMENTS[call])) + " answered " + got + ", due is " + want);
                return;
            }
        }
        if (x.digest() != model.digest()) {
            wrong++;
            System.out.println("run " + run + ": the digest at the end is not as due");
        }
    }

    /** Every cube up to so many turns away, each on an object of its own: far() and first() for each most. */
    private static void allNearCubes(List<Integer> turns, Cube cube, int left) {
        CornerCube x = new CornerCube();
        for (int turn : turns) {
            x.turn(turn / 3, turn % 3 + 1);
        }
        for (int most = 0; most <= 5; most++) {
            if (x.far(most) != cube.far(most) || x.first(most) != cube.first(most)) {
                wrong++;
                System.out.println("far or first(" + most + ") behind the turns " + turns + " is not as due");
            }
        }
        for (int turn = 0; left > 0 && wrong < MOST_TOLD && turn < 9; turn++) {
            if (turns.isEmpty() || turn / 3 != turns.get(turns.size() - 1) / 3) {
                List<Integer> more = new ArrayList<>(turns);
                more.add(turn);
                allNearCubes(more, cube.turned(turn), left - 1);
            }
        }
    }

    public static void main(String[] args) {
        for (int run = 0; run < RUNS && wrong < MOST_TOLD; run++) {
            run(run);
        }
        allNearCubes(new ArrayList<>(), new Cube(), 5);
        System.out.println(wrong == 0 ? "all answers are those of the model" : wrong + " runs are not as due");
        if (wrong != 0) {
            System.exit(1);
        }
    }
}
