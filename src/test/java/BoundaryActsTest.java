/** Promises 28 to 37, sentence by sentence: gains and their acts, shelves and rows, counts; then the full object. */
public final class BoundaryActsTest {
    private static Sentences s;

    public static void main(String[] args) throws Exception {
        s = new Sentences();
        body();
        act();
        bodiesOfActs();
        acrossKinds();
        trace();
        keep();
        row();
        put();
        lowestBits();
        element();
        shift();
        shiftRefused();
        taken();
        count();
        fullObject();
        s.ends(28, 37);
    }

    private static void body() {
        s.says(28, "GAINS are kept by call as BODIES 0 .. 49", """
            body(0) 0..49
            count(8) 50
            body(0) FULL
            body(7) FULL
            count(8) 50
            act(49, 0, 0) 49
            """);
        s.says(28, "A GAIN of a KIND (0 .. 7) is kept: its number. BAD, FULL.", """
            body(-1) BAD
            body(8) BAD
            body(MIN) BAD
            body(MAX) BAD
            count(8) 0
            body(0) 0
            body(7) 1
            keep(0, 0) 1
            keep(1, 1) 1
            taken(0, 0) 0
            taken(1, 0) 7
            body(0) 2..49
            body(0) FULL
            body(-1) BAD
            body(8) BAD
            """);
    }

    private static void act() {
        s.says(29, "An ACT (0 .. 3) of a GAIN with x. 0, and no TRACE then: no such GAIN, ACT.", """
            act(0, 0, 7) 0
            count(9) 0
            trace(0) BAD
            body(0) 0
            act(0, 0, 7) 7
            count(9) 1
            trace(0) 1
            act(1, 0, 7) 0
            count(9) 0
            trace(0) BAD
            act(0, 3, 7) 13
            count(9) 4
            act(0, 4, 7) 0
            count(9) 0
            trace(0) BAD
            act(0, 0, 7) 7
            act(-1, 0, 7) 0
            count(9) 0
            trace(0) BAD
            act(0, 0, 7) 7
            act(0, -1, 7) 0
            count(9) 0
            trace(0) BAD
            act(0, 0, 7) 7
            act(MIN, MIN, MIN) 0
            count(9) 0
            act(0, 0, 7) 7
            act(MAX, MAX, MAX) 0
            count(9) 0
            """, """
            body(0) 0..49
            act(49, 0, 7) 56
            count(9) 1
            act(50, 0, 7) 0
            count(9) 0
            """);
        s.says(29, "ACTS with x (an int that wraps): 0 gives, 1 chooses, 2 parts, 3 tells; n its number.", """
            body(0) 0
            body(0) 1
            act(0, 0, 2147483647) 2147483647
            act(1, 0, 2147483647) -2147483648
            act(1, 0, MIN) -2147483647
            act(0, 1, 2147483647) -2
            act(0, 1, MIN) 0
            act(1, 1, 1073741823) -2147483648
            act(0, 2, MIN) -2147483648
            act(1, 2, MIN) -2147483647
            act(1, 2, MAX) 2147483646
            act(0, 3, MIN) -1
            act(1, 3, 1073741823) -2147483648
            """, """
            # gives(x + 1) of GIVEN: x + 1 + n + 3; parts: (x ^ n) * 3
            body(3) 0
            act(0, 0, MAX) -2147483645
            act(0, 2, MAX) 2147483645
            act(0, 2, MIN) -2147483648
            # -chooses(x) of TRAINED: - (x + n) * 2
            body(2) 1
            act(1, 1, 1073741823) -2147483648
            act(1, 1, MAX) 0
            # less gives(2) of DAYS: (x ^ n) - (2 + n)
            body(4) 2
            act(2, 2, MIN) 2147483646
            """);
    }

    private static String acted(int kind, int act, int value, int... bodies) {
        // n is 3, x is 7.
        StringBuilder run = new StringBuilder("body(0) 0..2\nbody(" + kind + ") 3\nact(3, " + act + ", 7) " + value + "\ncount(9) " + bodies.length + "\n");
        for (int k = 0; k < bodies.length; k++) {
            run.append("trace(").append(k).append(") ").append(bodies[k]).append('\n');
        }
        return run.append("trace(").append(bodies.length).append(") BAD\n").toString();
    }

    private static void bodiesOfActs() {
        s.says(29, "GIVES (an interface of GAIN): 1 gives: x + n.", acted(0, 0, 10, 1));
        s.says(29, "GAIN: 10 chooses: gives(x) * 2. 11 parts: x ^ n.", acted(0, 1, 20, 10, 1), acted(0, 2, 4, 11));
        s.says(29, "TELLS (of GAIN): 2 tells: chooses(x) - parts(1).", acted(0, 3, 18, 2, 10, 1, 11));
        s.says(29, "SHOES: 20 gives: super.gives(x) + 3.", acted(1, 0, 13, 20, 1), acted(1, 1, 26, 10, 20, 1), acted(1, 2, 4, 11), acted(1, 3, 24, 2, 10, 20, 1, 11));
        s.says(29, "TRAINED: 30 chooses: -super.chooses(x).", acted(2, 0, 10, 1), acted(2, 1, -20, 30, 10, 1), acted(2, 2, 4, 11), acted(2, 3, -22, 2, 30, 10, 1, 11));
        s.says(29, "GIVEN: 40 parts: super.parts(x) * 3. 41 gives: super.gives(x + 1).", acted(3, 0, 14, 41, 20, 1), acted(3, 1, 28, 10, 41, 20, 1),
            acted(3, 2, 12, 40, 11), acted(3, 3, 22, 2, 10, 41, 20, 1, 40, 11));
        s.says(29, "DAYS: 50 parts: super.parts(x) - gives(2).", acted(4, 0, 10, 1), acted(4, 1, 20, 10, 1), acted(4, 2, -1, 50, 11, 1), acted(4, 3, 23, 2, 10, 1, 50, 11, 1));
        s.says(29, "BELIEVED: 60 tells: super.tells(x) ^ 5.", acted(5, 0, 10, 1), acted(5, 1, -20, 30, 10, 1), acted(5, 2, 4, 11), acted(5, 3, -22 ^ 5, 60, 2, 30, 10, 1, 11));
        s.says(29, "NONE: 70 gives: super.gives(x) * 2.", acted(6, 0, 20, 70, 1), acted(6, 1, 40, 10, 70, 1), acted(6, 2, 4, 11), acted(6, 3, 38, 2, 10, 70, 1, 11));
        s.says(29, "GROWN: 80 chooses: super.chooses(x) + parts(2). 81 tells: super.tells(x) - 1.", acted(7, 0, 10, 1), acted(7, 1, 16, 80, 10, 1, 50, 11, 1),
            acted(7, 2, -1, 50, 11, 1), acted(7, 3, 18, 81, 2, 80, 10, 1, 50, 11, 1, 50, 11, 1));
    }

    private static void acrossKinds() {
        s.says(29, "the body of its own KIND, or of the next KIND above that has one; super: from the KIND above the body's on.", """
            # GIVEN has gives of its own, SHOES above it too; chooses and tells are GAIN's
            body(3) 0
            act(0, 1, 0) 8
            count(9) 4
            trace(0) 10
            trace(1) 41
            trace(2) 20
            trace(3) 1
            # BELIEVED goes past TRAINED to GAIN for tells, and has its chooses of TRAINED
            body(5) 1
            # (-((0 + 1) * 2) - (1 ^ 1)) ^ 5
            act(1, 3, 0) -5
            trace(0) 60
            trace(1) 2
            trace(2) 30
            trace(3) 10
            trace(4) 1
            trace(5) 11
            count(9) 6
            """);
    }

    private static void trace() {
        s.says(30, "THE TRACE's i-th body. BAD.", """
            trace(0) BAD
            body(7) 0
            trace(0) BAD
            act(0, 3, 1) 2
            count(9) 11
            trace(-1) BAD
            trace(0) 81
            trace(10) 1
            trace(11) BAD
            trace(23) BAD
            trace(24) BAD
            trace(MIN) BAD
            trace(MAX) BAD
            """);
        s.says(30, "THE TRACE: numbers of the bodies that ran in the latest act(), as they began; the first 24 are kept.", """
            # as many as ever run are fewer than 24, and all kept; a shorter act leaves none of a longer
            body(7) 0
            act(0, 3, 1) 2
            trace(0) 81
            trace(1) 2
            trace(2) 80
            trace(3) 10
            trace(4) 1
            trace(5) 50
            trace(6) 11
            trace(7) 1
            trace(8) 50
            trace(9) 11
            trace(10) 1
            trace(11) BAD
            act(0, 0, 1) 1
            trace(0) 1
            trace(1) BAD
            count(9) 1
            """);
    }

    private static void keep() {
        s.says(31, "SHELVES 0 .. 5 each hold nothing (at first), a GAIN (a BODY), or a ROW", """
            taken(0, 0) NOTHING
            taken(1, 0) NOTHING
            taken(2, 0) NOTHING
            taken(3, 0) NOTHING
            taken(4, 0) NOTHING
            taken(5, 0) NOTHING
            body(0) 0
            keep(-1, 0) BAD
            keep(0, 0) 1
            keep(5, 0) 1
            keep(6, 0) BAD
            keep(-1, -1) BAD
            keep(6, -1) BAD
            keep(MIN, 0) BAD
            keep(MAX, 0) BAD
            taken(0, 0) 0
            taken(1, 0) NOTHING
            taken(5, 0) 0
            row(0, 2, 3) 1
            taken(0, 0) KIND
            element(0, 0) 0
            """);
        s.says(31, "A SHELF holds nothing (body -1), or a GAIN: 1. BAD.", """
            keep(0, 0) BAD
            keep(0, -1) 1
            body(1) 0
            keep(0, -2) BAD
            keep(0, 1) BAD
            keep(0, MIN) BAD
            keep(0, MAX) BAD
            taken(0, 0) NOTHING
            keep(0, 0) 1
            taken(0, 0) 1
            keep(0, 1) BAD
            taken(0, 0) 1
            keep(0, -1) 1
            taken(0, 0) NOTHING
            # a GAIN in a ROW's place, and nothing
            row(1, 2, 3) 1
            keep(1, 0) 1
            put(1, 0, 1) KIND
            row(1, 2, 3) 1
            keep(1, -1) 1
            put(1, 0, 1) NOTHING
            """, """
            body(0) 0..49
            keep(0, 49) 1
            keep(0, 50) BAD
            taken(0, 0) 0
            """);
    }

    private static void row() {
        s.says(32, "of 0 bytes, 1 shorts, 2 ints, 3 longs, 4 booleans, of 0 .. 60 elements, 0 at first (false)", """
            row(0, -1, 1) BAD
            row(0, 5, 1) BAD
            row(0, MIN, 1) BAD
            row(0, MAX, 1) BAD
            row(0, 2, 61) BAD
            row(0, 2, MAX) BAD
            taken(0, 0) NOTHING
            row(0, 0, 60) 1
            element(0, 59) 0
            element(0, 60) LEAST
            row(1, 4, 60) 1
            element(1, 59) 0
            put(1, 59, 1) 1
            put(1, 60, 1) PLACE
            # a new ROW in its place is 0 again
            row(1, 4, 60) 1
            element(1, 59) 0
            row(1, 3, 0) 1
            element(1, 0) LEAST
            put(1, 0, 1) PLACE
            row(1, 3, 1) 1
            element(1, 0) 0
            put(1, 0, 5) 1
            put(1, 1, 5) PLACE
            row(1, 3, 2) 1
            element(1, 0) 0
            element(1, 1) 0
            # what stood behind a shorter one is 0, too
            puts(1, 0, 6, 7)
            row(1, 3, 1) 1
            row(1, 3, 2) 1
            element(1, 0) 0
            element(1, 1) 0
            # and what a GAIN, or nothing, came between
            puts(1, 0, 6, 7)
            keep(1, -1) 1
            row(1, 3, 2) 1
            element(1, 0) 0
            element(1, 1) 0
            """);
        s.says(32, "A SHELF holds a ROW: 1. BAD (sort, n above 60); -14.", """
            row(-1, 2, 1) BAD
            row(6, 2, 1) BAD
            row(MIN, 2, 1) BAD
            row(MAX, 2, 1) BAD
            row(0, 2, -1) SIZE
            row(0, 2, MIN) SIZE
            taken(0, 0) NOTHING
            row(5, 0, 1) 1
            put(5, 0, 9) 1
            # BAD comes ahead of -14
            row(5, 5, -1) BAD
            row(5, -1, -1) BAD
            row(6, 2, -1) BAD
            row(-1, 2, -1) BAD
            # what the SHELF held stays
            row(5, 2, -1) SIZE
            row(5, 2, 61) BAD
            row(5, 5, 1) BAD
            element(5, 0) 9
            body(0) 0
            keep(4, 0) 1
            row(4, 2, -1) SIZE
            row(4, 2, 61) BAD
            taken(4, 0) 0
            """);
    }

    private static void put() {
        s.says(33, "Element i of a ROW becomes v: 1. BAD, -11, -12, -13.", """
            put(-1, 0, 1) BAD
            put(6, 0, 1) BAD
            put(MIN, 0, 1) BAD
            put(MAX, 0, 1) BAD
            put(0, 0, 1) NOTHING
            put(5, 0, 1) NOTHING
            row(0, 2, 2) 1
            put(0, -1, 1) PLACE
            put(0, 0, 11) 1
            put(0, 1, 12) 1
            put(0, 2, 1) PLACE
            put(0, MIN, 1) PLACE
            put(0, MAX, 1) PLACE
            element(0, 0) 11
            element(0, 1) 12
            row(5, 2, 60) 1
            put(5, 59, 7) 1
            put(5, 60, 7) PLACE
            element(5, 59) 7
            """);
        s.says(33, "-11 nothing is there where something is wanted; -12 it is of another kind; -13 a place that is not there", """
            # of several the one named first
            put(6, -1, 1) BAD
            put(0, -1, 1) NOTHING
            body(0) 0
            keep(0, 0) 1
            put(0, 0, 1) KIND
            put(0, -1, 1) KIND
            put(0, 60, 1) KIND
            row(0, 2, 0) 1
            put(0, 0, 1) PLACE
            put(0, -1, 1) PLACE
            """);
    }

    /** What is put into a row of that sort, and what is there then. */
    private static String bits(int sort, long... pairs) {
        StringBuilder run = new StringBuilder("row(2, " + sort + ", 3) 1\n");
        for (int k = 0; k < pairs.length; k += 2) {
            run.append("put(2, 1, ").append(pairs[k]).append(") 1\nelement(2, 1) ").append(pairs[k + 1]).append('\n');
        }
        return run.append("element(2, 0) 0\nelement(2, 2) 0\n").toString();
    }

    private static void lowestBits() {
        long most = Long.MAX_VALUE, least = Long.MIN_VALUE;
        String sentence = "what is put in keeps its lowest bits (a boolean: whether it is not 0; 1 or 0)";
        s.says(33, sentence, bits(0, 127, 127, 128, -128, 255, -1, 256, 0, -128, -128, -129, 127, -256, 0, most, -1, least, 0, 1L << 32, 0));
        s.says(33, sentence, bits(1, 32767, 32767, 32768, -32768, 65535, -1, 65536, 0, -32768, -32768, -32769, 32767, 128, 128, most, -1, least, 0));
        s.says(33, sentence, bits(2, 2147483647L, 2147483647L, 2147483648L, -2147483648L, 4294967295L, -1, 4294967296L, 0, -2147483649L, 2147483647L,
            65536, 65536, most, -1, least, 0));
        s.says(33, sentence, bits(3, most, most, 4294967296L, 4294967296L, -2147483649L, -2147483649L, -1, -1, 0, 0, least + 1, least + 1));
        s.says(33, sentence, bits(4, 0, 0, 1, 1, 2, 1, -1, 1, 256, 1, 4294967296L, 1, least, 1, most, 1, 0, 0));
    }

    private static void element() {
        s.says(34, "Element i of a ROW; Long.MIN_VALUE: BAD, -11 to -13.", """
            element(-1, 0) LEAST
            element(6, 0) LEAST
            element(MIN, 0) LEAST
            element(MAX, 0) LEAST
            element(0, 0) LEAST
            element(5, 0) LEAST
            body(0) 0
            keep(1, 0) 1
            element(1, 0) LEAST
            row(0, 3, 2) 1
            puts(0, 0, 8, -9)
            element(0, -1) LEAST
            element(0, 0) 8
            element(0, 1) -9
            element(0, 2) LEAST
            element(0, MIN) LEAST
            element(0, MAX) LEAST
            row(5, 3, 60) 1
            put(5, 59, 1) 1
            element(5, 59) 1
            element(5, 60) LEAST
            """, """
            # the least of longs may stand in a ROW, too
            row(0, 3, 1) 1
            put(0, 0, -9223372036854775808) 1
            element(0, 0) -9223372036854775808
            """);
    }

    private static void shift() {
        s.says(35, "n elements of a ROW from i on come to another one (or the same) from j on, as they all were before: n.", """
            row(0, 2, 6) 1
            puts(0, 0, 1, 2, 3, 4, 5, 6)
            row(5, 2, 3) 1
            shift(0, 2, 5, 0, 3) 3
            element(5, 0) 3
            element(5, 1) 4
            element(5, 2) 5
            element(0, 2) 3
            shift(0, 0, 5, 1, 1) 1
            element(5, 0) 3
            element(5, 1) 1
            element(5, 2) 5
            shift(0, 0, 5, 0, 0) 0
            element(5, 0) 3
            """, """
            # the same: up, down, and where it is
            row(0, 2, 6) 1
            puts(0, 0, 1, 2, 3, 4, 5, 6)
            shift(0, 0, 0, 2, 4) 4
            element(0, 0) 1
            element(0, 1) 2
            element(0, 2) 1
            element(0, 3) 2
            element(0, 4) 3
            element(0, 5) 4
            shift(0, 1, 0, 0, 5) 5
            element(0, 0) 2
            element(0, 1) 1
            element(0, 2) 2
            element(0, 3) 3
            element(0, 4) 4
            element(0, 5) 4
            shift(0, 0, 0, 0, 6) 6
            element(0, 0) 2
            element(0, 5) 4
            """, """
            # the widest, of each sort
            row(0, 0, 60) 1
            row(1, 0, 60) 1
            puts(0, 0, 1)
            puts(0, 59, -2)
            shift(0, 0, 1, 0, 60) 60
            element(1, 0) 1
            element(1, 59) -2
            row(0, 1, 60) 1
            row(1, 1, 60) 1
            puts(0, 59, -300)
            shift(0, 0, 1, 0, 60) 60
            element(1, 59) -300
            row(0, 3, 60) 1
            row(1, 3, 60) 1
            puts(0, 59, 4294967296)
            shift(0, 0, 1, 0, 60) 60
            element(1, 59) 4294967296
            row(0, 4, 60) 1
            row(1, 4, 60) 1
            puts(0, 59, 5)
            shift(0, 0, 1, 0, 60) 60
            element(1, 59) 1
            """);
    }

    private static void shiftRefused() {
        s.says(35, "BAD, -11 (either), -12 (no ROWS, or of unlike sorts), -13.", """
            # BAD comes ahead of -11
            shift(-1, 0, 0, 0, 0) BAD
            shift(6, 0, 0, 0, 0) BAD
            shift(0, 0, -1, 0, 0) BAD
            shift(0, 0, 6, 0, 0) BAD
            shift(MIN, 0, MAX, 0, 0) BAD
            shift(0, 0, 0, 0, 0) NOTHING
            shift(0, -1, 5, -1, -1) NOTHING
            row(0, 2, 3) 1
            shift(0, 0, 1, 0, 1) NOTHING
            shift(1, 0, 0, 0, 1) NOTHING
            shift(0, 0, 6, 0, 1) BAD
            shift(-1, 0, 0, 0, 1) BAD
            # -11 comes ahead of -12
            body(0) 0
            keep(2, 0) 1
            shift(2, 0, 1, 0, 1) NOTHING
            shift(1, 0, 2, 0, 1) NOTHING
            # -12: a GAIN either way, or both; sorts that are unlike
            shift(2, 0, 0, 0, 1) KIND
            shift(0, 0, 2, 0, 1) KIND
            shift(2, 0, 2, 0, 0) KIND
            row(3, 1, 3) 1
            row(4, 3, 3) 1
            shift(0, 0, 3, 0, 1) KIND
            shift(3, 0, 0, 0, 1) KIND
            shift(0, 0, 4, 0, 0) KIND
            # -12 comes ahead of -13
            shift(0, -1, 2, -1, -1) KIND
            shift(2, -1, 0, 0, 1) KIND
            shift(0, 9, 3, 0, 1) KIND
            shift(4, 0, 3, 0, -1) KIND
            """);
        for (int sort = 0; sort < 5; sort++) {
            StringBuilder run = new StringBuilder("row(0, " + sort + ", 3) 1\n");
            for (int other = 0; other < 5; other++) {
                run.append("row(1, ").append(other).append(", 3) 1\nshift(0, 0, 1, 0, 1) ").append(sort == other ? "1" : "KIND").append('\n');
            }
            s.says(35, "-12 (no ROWS, or of unlike sorts)", run.toString());
        }
        s.says(35, "-13 a place that is not there", """
            row(0, 2, 6) 1
            puts(0, 0, 1, 2, 3, 4, 5, 6)
            row(1, 2, 3) 1
            shift(0, -1, 1, 0, 1) PLACE
            shift(0, 0, 1, -1, 1) PLACE
            shift(0, -1, 1, 0, 0) PLACE
            shift(0, 0, 1, -1, 0) PLACE
            shift(0, 0, 1, 0, -1) PLACE
            shift(0, 3, 1, 3, -1) PLACE
            shift(0, 5, 1, 0, 1) 1
            shift(0, 6, 1, 0, 1) PLACE
            shift(0, 5, 1, 0, 2) PLACE
            shift(0, 6, 1, 0, 0) 0
            shift(0, 7, 1, 0, 0) PLACE
            shift(0, 0, 1, 2, 1) 1
            shift(0, 0, 1, 3, 1) PLACE
            shift(0, 0, 1, 2, 2) PLACE
            shift(0, 0, 1, 3, 0) 0
            shift(0, 0, 1, 4, 0) PLACE
            shift(0, 0, 1, 0, 3) 3
            shift(0, 0, 1, 0, 4) PLACE
            shift(0, 0, 0, 0, 6) 6
            shift(0, 0, 0, 0, 7) PLACE
            shift(0, 0, 0, 1, 6) PLACE
            shift(0, 1, 0, 0, 6) PLACE
            shift(0, MAX, 1, MAX, MAX) PLACE
            shift(0, 1, 1, 1, MAX) PLACE
            shift(0, MAX, 1, 0, 1) PLACE
            shift(0, 0, 1, MAX, 1) PLACE
            shift(0, MIN, 1, MIN, MIN) PLACE
            row(2, 2, 0) 1
            shift(2, 0, 2, 0, 0) 0
            shift(2, 0, 0, 6, 0) 0
            shift(2, 0, 0, 0, 1) PLACE
            """);
    }

    private static void taken() {
        String sentence = "of KINDS: 0 GAIN; 1 SHOES under GAIN; 2 TRAINED under GAIN; 3 GIVEN under SHOES; 4 DAYS under GAIN; "
            + "5 BELIEVED under TRAINED; 6 NONE under GAIN; 7 GROWN under DAYS.";
        String[] above = {"0", "10", "20", "310", "40", "520", "60", "740"};
        for (int kind = 0; kind < 8; kind++) {
            StringBuilder run = new StringBuilder("body(" + kind + ") 0\nkeep(0, 0) 1\n");
            for (int k = 0; k < 8; k++) {
                run.append("taken(0, ").append(k).append(") ").append(above[kind].indexOf('0' + k) >= 0 ? "" + kind : "KIND").append('\n');
            }
            s.says(36, sentence, run.toString());
        }
        s.says(36, "What a SHELF holds, taken for a GAIN of KIND k (0 .. 7), or under it: its KIND. BAD, -11, -12.", """
            taken(-1, 0) BAD
            taken(6, 0) BAD
            taken(MIN, 0) BAD
            taken(MAX, 0) BAD
            # BAD comes ahead of -11
            taken(0, -1) BAD
            taken(0, 8) BAD
            taken(0, MIN) BAD
            taken(0, MAX) BAD
            taken(0, 0) NOTHING
            taken(0, 7) NOTHING
            taken(5, 0) NOTHING
            # and of -12
            row(0, 2, 3) 1
            taken(0, 0) KIND
            taken(0, 7) KIND
            taken(0, -1) BAD
            taken(0, 8) BAD
            body(7) 0
            keep(5, 0) 1
            taken(5, 7) 7
            taken(5, 1) KIND
            taken(5, 8) BAD
            taken(5, -1) BAD
            keep(5, -1) 1
            taken(5, 7) NOTHING
            """);
    }

    private static void count() {
        s.says(37, "9 bodies that ran in the latest act() (all, kept or not). BAD.", """
            count(-1) BAD
            count(0) 0
            count(9) 0
            count(10) BAD
            count(MIN) BAD
            count(MAX) BAD
            body(7) 0
            count(9) 0
            act(0, 3, 0) 0
            count(9) 11
            act(0, 2, 0) -2
            count(9) 3
            act(0, 9, 0) 0
            count(9) 0
            """);
        s.says(37, "0 RUNNERS, 1 SHOES, 2 COURSES, 3 RUNS, 4 bytes on THE TAPE, 5 LAWS, 6 points, 7 changes that may be UNDONE, 8 GAINS that are kept", """
            runner(1000, 50000) 0
            shoe(40, 30, 0) 1..2
            course(1000) 0..3
            ran(0, 1, 1000) 0..4
            law("1") 0
            law("1") 1
            tape("123456") 6
            point(0, 1) 1
            point(1, 1) 2
            point(2, 1) 3
            mend(0, 0, 11) 1000
            mend(0, 0, 12) 11
            mend(0, 0, 13) 12
            mend(0, 0, 14) 13
            mend(0, 0, 15) 14
            mend(0, 0, 16) 15
            mend(0, 0, 17) 16
            mend(0, 0, 18) 17
            undo() 7
            body(0) 0..8
            count(0) 1
            count(1) 3
            count(2) 4
            count(3) 5
            count(4) 6
            count(5) 2
            count(6) 3
            count(7) 7
            count(8) 9
            count(9) 0
            """);
    }

    /** All that has a bound is there: 20 runners, 6 shoes, 5 courses, 120 runs, 4 laws, 120 bytes, 6 points, 40 changes, 50 gains. */
    private static void fullObject() {
        StringBuilder mends = new StringBuilder();
        for (int v = 101; v <= 140; v++) {
            mends.append("mend(119, 0, ").append(v).append(")\n");
        }
        String full = """
            runner(1000, 50000) 0..19
            shoe(40, 30, 0) 1..5
            course(1000) 0..4
            law("1") 0
            law("0") 1
            law("z<50") 2
            law("0?1") 3
            6 x race(4, 5, 0, 77) 20
            29 x feed(4, 825307441)
            feed(4, 825307441) 120
            point(0, 1) 1
            point(1, 1) 2
            point(2, 1) 3
            point(3, 1) 4
            point(4, 1) 5
            point(5, 1) 6
            """ + mends + """
            body(7) 0..49
            row(0, 2, 60) 1
            keep(5, 49) 1
            """;
        s.says(37, "What is answered so changes nothing.", full + """
            count(0) 20
            count(1) 6
            count(2) 5
            count(3) 120
            count(4) 120
            count(5) 4
            count(6) 6
            count(7) 40
            count(8) 50
            runner(1000, 50000) FULL
            shoe(40, 30, 0) FULL
            course(1000) FULL
            ran(0, 1, 1000) FULL
            runs(1, 0, 1) 0
            runs(5, 0, 1) KIND
            feed(1, 0) FULL
            law() FULL
            race(4, 5, 0, 77) STATE
            point(6, 1) FULL
            redo() STATE
            body(7) FULL
            """, full + """
            of(120, 0) VOID
            mend(120, 0, 100) VOID
            mend(6, 2, 1) VOID
            mend(0, 1, 6) VOID
            unseen(500, 0) VOID
            person(20) VOID
            belt(20, 0) BAD
            records(5, 99, -1) BAD
            best(5, 0, 0) BAD
            dead(6, 0) VOID
            needed(6) BAD
            act(50, 0, 0) 0
            keep(0, 50) BAD
            element(0, 60) LEAST
            """);
    }
}
