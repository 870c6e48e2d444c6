/** Promises 1 to 12, sentence by sentence: runners, shoes, courses, runs; the tape, laws and races. */
public final class BoundaryRunsTest {
    private static final String SOME = """
        runner(1000, 50000) 0
        course(1000) 0
        """;
    private static final String TWENTY = "runner(1000, 50000) 0..19\n";
    private static final String ALL_COURSES = "course(1000) 0..4\n";
    private static final String ALL_SHOES = "shoe(40, 30, 0) 1..5\n";
    private static Sentences s;

    public static void main(String[] args) throws Exception {
        s = new Sentences();
        newObject();
        runner();
        shoe();
        course();
        ran();
        runs();
        runsRefused();
        of();
        mend();
        feed();
        law();
        lines();
        grammar();
        nesting();
        bytes();
        values();
        names();
        eyes();
        raceTold();
        raceRun();
        raceDrawn();
        s.ends(1, 12);
    }

    private static void newObject() {
        s.says(1, "No runners; the old shoe.", """
            count(0) 0
            count(1) 1
            count(2) 0
            count(3) 0
            count(4) 0
            count(5) 0
            count(6) 0
            count(7) 0
            count(8) 0
            count(9) 0
            """);
        constants();
        s.says(1, "SHOE 0 is the old one, there from the beginning: THICK 20, GIVES 0, MADE 0", """
            dead(0, 0) 0
            needed(0) NOT
            runner(1000, 50000) 0
            course(1000) 0
            # made in year 0: it may be raced in then
            law("1") 0
            race(0, 0, 0, 0) 1
            of(0, 4) 0
            rule(19) 1
            rule(20) 0
            shoe(40, 30, 0) 1
            """, """
            # a law sees what it gives, and how thick it is
            runner(1000, 50000) 0
            course(1000) 0
            shoe(40, 30, 0) 1
            law("g=0&k=20") 0
            law("1/(g=0&k=20)") 1
            race(0, 0, 0, 0) 1
            """);
        s.says(1, "An object is used for at most 512 calls after it has been made", """
            509 x count(0) 0
            runner(1000, 50000) 0
            count(0) 1
            runner(1000, 50000) 1
            """);
    }

    private static void constants() {
        s.is(1, "public static final int BAD = -1, NOT = -2, FULL = -3, BIG = -4, STATE = -5, VOID = -2000000000;",
            new long[] {ThreeHundred.BAD, ThreeHundred.NOT, ThreeHundred.FULL, ThreeHundred.BIG, ThreeHundred.STATE, ThreeHundred.VOID},
            new long[] {-1, -2, -3, -4, -5, -2000000000});
    }

    private static void runner() {
        s.says(2, "RUNNERS 0 .. 19, as they come", """
            runner(1000, 50000) 0..19
            count(0) 20
            runner(1000, 50000) FULL
            runner(600, 0) FULL
            count(0) 20
            """);
        s.says(2, "FORM (600 .. 9999 tenths of a minute on a flat course)", """
            runner(599, 50000) BAD
            runner(600, 50000) 0
            runner(9999, 50000) 1
            runner(10000, 50000) BAD
            runner(0, 50000) BAD
            runner(-600, 50000) BAD
            runner(MIN, 50000) BAD
            runner(MAX, 50000) BAD
            count(0) 2
            # 600 and 9999 times 99 by 1000
            point(0, 99) 1
            belt(0, 0) 59
            belt(1, 0) 989
            """);
        s.says(2, "DRIFT (-50 .. 50: so many tenths a YEAR are added)", """
            runner(6000, -1) BAD
            runner(6000, -1000) BAD
            runner(6000, 0) 0
            runner(6000, 100000) 1
            runner(6000, 101000) BAD
            runner(6000, MIN) BAD
            runner(6000, MAX) BAD
            # what is TRAINED and SEX does not drift
            runner(6000, 100991) 2
            runner(6000, 50991) 3
            course(1000) 0
            shoe(40, 0, 0) 1
            # in year 1, and in year 99
            law("f=595|f=105") 0
            law("f=605|f=1095") 1
            law("f=600") 2
            race(0, 11, 0, 0) 4
            of(0, 4) 1
            of(1, 4) 0
            race(10, 11, 0, 0) 4
            of(4, 4) 0
            of(5, 4) 1
            of(6, 4) 1
            of(7, 4) 0
            race(0, 991, 0, 0) 4
            of(8, 4) 1
            race(10, 991, 0, 0) 4
            of(12, 4) 0
            of(13, 4) 1
            of(14, 4) 1
            race(20, 991, 0, 0) 4
            of(18, 4) 0
            of(19, 4) 1
            """);
        s.says(2, "TRAINED (0 .. 99)", """
            runner(1000, 50000) 0
            runner(1000, 50990) 1
            # one more is a tenth a year, and trained 0
            runner(1000, 51000) 2
            course(1000) 0
            shoe(40, 0, 0) 1
            law("t=0") 0
            law("t=99") 1
            race(0, 11, 0, 0) 3
            of(0, 4) 1
            of(1, 4) 0
            of(2, 4) 1
            race(10, 11, 0, 0) 3
            of(3, 4) 0
            of(4, 4) 1
            of(5, 4) 0
            """);
        s.says(2, "a SEX (0, 1)", """
            runner(1000, 50000) 0
            runner(1000, 50001) 1
            runner(1000, 50002) BAD
            runner(1000, 50009) BAD
            runner(1000, 50012) BAD
            runner(1000, 50992) BAD
            course(1000) 0
            shoe(40, 0, 0) 1
            law("s=1") 0
            race(0, 11, 0, 0) 2
            of(0, 4) 0
            of(1, 4) 1
            """);
        s.says(2, "td: 1000 times (DRIFT and 50), 10 TRAINED, SEX.", """
            runner(1000, 100991) 0
            runner(1000, 100992) BAD
            runner(1000, 100999) BAD
            runner(1000, 0) 1
            runner(1000, 1) 2
            runner(1000, 2) BAD
            """);
        s.says(2, "A RUNNER: its number. td: 1000 times (DRIFT and 50), 10 TRAINED, SEX. BAD, FULL.", TWENTY + """
            runner(1000, 50000) FULL
            runner(599, 50000) BAD
            runner(10000, 50000) BAD
            runner(1000, -1) BAD
            runner(1000, 101000) BAD
            runner(1000, 50002) BAD
            """);
    }

    private static void shoe() {
        s.says(3, "SHOES 0 .. 5, as they come", """
            shoe(40, 30, 0) 1..5
            count(1) 6
            shoe(40, 30, 0) FULL
            shoe(1, -99, 99) FULL
            count(1) 6
            """);
        s.says(3, "THICK (1 .. 99 millimetres)", SOME + """
            shoe(0, 0, 0) BAD
            shoe(1, 0, 0) 1
            shoe(99, 0, 0) 2
            shoe(100, 0, 0) BAD
            shoe(-1, 0, 0) BAD
            shoe(MIN, 0, 0) BAD
            shoe(MAX, 0, 0) BAD
            ran(0, 2, 1000) 0
            ran(0, 3, 1000) 1
            rule(0) 2
            rule(1) 1
            rule(98) 1
            rule(99) 0
            """);
        s.says(3, "GIVES (-99 .. 99 thousandths)", """
            shoe(40, -100, 0) BAD
            shoe(40, -99, 0) 1
            shoe(40, 99, 0) 2
            shoe(40, 100, 0) BAD
            shoe(40, MIN, 0) BAD
            shoe(40, MAX, 0) BAD
            dead(1, 0) -99
            dead(2, 0) 99
            """);
        s.says(3, "MADE in a YEAR (0 .. 99)", SOME + """
            shoe(40, 0, -1) BAD
            shoe(40, 0, 0) 1
            shoe(40, 0, 99) 2
            shoe(40, 0, 100) BAD
            shoe(40, 0, MIN) BAD
            shoe(40, 0, MAX) BAD
            law("1") 0
            race(0, 1, 0, 0) 1
            race(0, 982, 0, 0) BAD
            race(0, 992, 0, 0) 1
            """);
        s.says(3, "A SHOE: its number. BAD, FULL.", ALL_SHOES + """
            shoe(40, 30, 0) FULL
            shoe(0, 30, 0) BAD
            shoe(100, 30, 0) BAD
            shoe(40, 100, 0) BAD
            shoe(40, -100, 0) BAD
            shoe(40, 30, -1) BAD
            shoe(40, 30, 100) BAD
            """);
    }

    private static void course() {
        s.says(4, "COURSES 0 .. 4, as they come", """
            course(1000) 0..4
            count(2) 5
            course(1000) FULL
            course(500) FULL
            count(2) 5
            """);
        s.says(4, "HARD (500 .. 2000 thousandths)", """
            course(499) BAD
            course(500) 0
            course(2000) 1
            course(2001) BAD
            course(0) BAD
            course(-500) BAD
            course(MIN) BAD
            course(MAX) BAD
            runner(1000, 50000) 0
            ran(0, 0, 1000) 0
            ran(1, 0, 1000) 1
            of(0, 5) 2000
            of(1, 5) 500
            """);
        s.says(4, "A COURSE: its number. BAD, FULL.", ALL_COURSES + """
            course(500) FULL
            course(499) BAD
            course(2001) BAD
            """);
    }

    private static void ran() {
        s.says(5, "RUNS 0 .. 119, as they come", SOME + """
            ran(0, 1, 1000) 0..119
            count(3) 120
            ran(0, 1, 1000) FULL
            ran(0, 0, 10) FULL
            count(3) 120
            """);
        s.says(5, "rc: 100 times the RUNNER, and the COURSE", """
            ran(0, 1, 1000) BAD
            runner(1000, 50000) 0
            ran(0, 1, 1000) BAD
            new
            course(1000) 0
            ran(0, 1, 1000) BAD
            new
            """ + SOME + """
            ran(0, 1, 1000) 0
            ran(1, 1, 1000) BAD
            ran(99, 1, 1000) BAD
            ran(100, 1, 1000) BAD
            ran(-1, 1, 1000) BAD
            ran(-100, 1, 1000) BAD
            new
            """ + TWENTY + ALL_COURSES + """
            ran(0, 1, 1000) 0
            ran(4, 1, 1000) 1
            ran(5, 1, 1000) BAD
            ran(99, 1, 1000) BAD
            ran(1900, 1, 1000) 2
            ran(1904, 1, 1000) 3
            ran(1905, 1, 1000) BAD
            ran(2000, 1, 1000) BAD
            ran(MIN, 1, 1000) BAD
            ran(MAX, 1, 1000) BAD
            of(1, 0) 0
            of(1, 1) 4
            of(2, 0) 19
            of(2, 1) 0
            of(3, 0) 19
            of(3, 1) 4
            """);
        s.says(5, "a YEAR (0 .. 99)", SOME + """
            ran(0, -1, 1000) BAD
            ran(0, -9, 1000) BAD
            ran(0, -10, 1000) BAD
            ran(0, 1, 1000) 0
            ran(0, 991, 1000) 1
            ran(0, 1000, 1000) BAD
            ran(0, 1001, 1000) BAD
            ran(0, MIN, 1000) BAD
            ran(0, MAX, 1000) BAD
            of(0, 2) 0
            of(1, 2) 99
            """);
        s.says(5, "a TIME (10 .. 29999 tenths)", SOME + """
            ran(0, 1, 9) BAD
            ran(0, 1, 10) 0
            ran(0, 1, 29999) 1
            ran(0, 1, 30000) BAD
            ran(0, 1, 0) BAD
            ran(0, 1, -10) BAD
            ran(0, 1, MIN) BAD
            ran(0, 1, MAX) BAD
            of(0, 3) 10
            of(1, 3) 29999
            """);
        s.says(5, "ys: 10 times the YEAR, and the SHOE and 1 (0: UNSEEN).", SOME + """
            ran(0, 50, 1000) 0
            ran(0, 51, 1000) 1
            ran(0, 52, 1000) BAD
            ran(0, 59, 1000) BAD
            of(0, 4) -1
            of(1, 4) 0
            new
            """ + SOME + ALL_SHOES + """
            ran(0, 50, 1000) 0
            ran(0, 56, 1000) 1
            ran(0, 57, 1000) BAD
            ran(0, 59, 1000) BAD
            ran(0, 996, 1000) 2
            ran(0, 997, 1000) BAD
            of(1, 4) 5
            of(2, 4) 5
            """, SOME + """
            # told runs may be of a year ahead of the one that the shoe was made in
            shoe(40, 30, 99) 1
            ran(0, 2, 1000) 0
            """);
        s.says(5, "A RUN: its number. rc: 100 times the RUNNER, and the COURSE; ys: 10 times the YEAR, and the SHOE and 1 (0: UNSEEN). BAD, FULL.",
            SOME + """
            ran(0, 1, 1000) 0..119
            ran(0, 1, 1000) FULL
            ran(1, 1, 1000) BAD
            ran(100, 1, 1000) BAD
            ran(0, 2, 1000) BAD
            ran(0, 1001, 1000) BAD
            ran(0, 1, 9) BAD
            ran(0, 1, 30000) BAD
            """);
    }

    private static void runs() {
        s.says(6, "n (1 .. 12) of them: how many came", SOME + rowOf(12) + """
            runs(0, 0, 0) BAD
            runs(0, 0, -1) BAD
            runs(0, 0, 13) BAD
            runs(0, 0, MIN) BAD
            runs(0, 0, MAX) BAD
            count(3) 0
            runs(0, 0, 1) 1
            count(3) 1
            runs(0, 0, 12) 12
            count(3) 13
            of(12, 2) 11
            of(12, 3) 1011
            """);
        s.says(6, "RUNS FROM A ROW on a SHELF, from place i on", SOME + rowOf(12) + """
            runs(-1, 0, 1) BAD
            runs(6, 0, 1) BAD
            runs(MIN, 0, 1) BAD
            runs(MAX, 0, 1) BAD
            row(5, 2, 5) 1
            puts(5, 0, 0, 0, 7, 1007, -1)
            runs(5, 0, 1) 1
            of(0, 2) 7
            runs(0, 55, 1) 1
            of(1, 2) 11
            runs(0, 50, 12) 2
            of(2, 2) 10
            of(3, 2) 11
            """);
        s.says(6, "it ends where the row is missing", SOME + """
            runs(0, 0, 1) 0
            runs(5, 0, 12) 0
            runs(0, -1, 1) 0
            runs(0, MAX, 1) 0
            count(3) 0
            row(0, 2, 5) 1
            puts(0, 0, 0, 0, 0, 1000, 0)
            keep(0, -1) 1
            runs(0, 0, 1) 0
            """);
        s.says(6, "ends (within a five, too)", SOME + """
            row(0, 2, 0) 1
            runs(0, 0, 1) 0
            row(0, 2, 4) 1
            puts(0, 0, 0, 0, 1, 1000)
            runs(0, 0, 1) 0
            row(0, 2, 5) 1
            puts(0, 0, 0, 0, 2, 1000, 0)
            runs(0, 0, 2) 1
            row(0, 2, 14) 1
            puts(0, 0, 0, 0, 3, 1000, 0, 0, 0, 4, 1000, 0, 0, 0, 5, 1000)
            runs(0, 0, 12) 2
            runs(0, 5, 12) 1
            runs(0, 10, 1) 0
            runs(0, 14, 1) 0
            runs(0, 15, 1) 0
            runs(0, MAX, 12) 0
            # a place ahead of the row is none of it
            runs(0, -1, 1) 0
            runs(0, -5, 2) 0
            runs(0, MIN, 12) 0
            count(3) 4
            """);
        String[] notSo = {"-1, 0, 5, 1000, 0", "1, 0, 5, 1000, 0", "0, -1, 5, 1000, 0", "0, 1, 5, 1000, 0", "0, 0, -1, 1000, 0",
            "0, 0, 100, 1000, 0", "0, 0, 5, 9, 0", "0, 0, 5, 30000, 0", "0, 0, 5, 1000, -2", "0, 0, 5, 1000, 1", "0, 100, 5, 1000, 0",
            "0, 0, 5, 1000, MIN", "MIN, MIN, MIN, MIN, MIN", "MAX, MAX, MAX, MAX, MAX"};
        for (String one : notSo) {
            s.says(6, "one is not so", SOME + "row(0, 2, 15) 1\nputs(0, 0, 0, 0, 5, 1000, 0)\nputs(0, 5, " + one
                + ")\nputs(0, 10, 0, 0, 5, 1000, 0)\n" + """
                runs(0, 0, 3) 1
                runs(0, 5, 1) 0
                count(3) 1
                runs(0, 10, 1) 1
                """);
        }
        String[] so = {"19, 0, 5, 1000, 0", "0, 4, 5, 1000, 0", "0, 0, 0, 1000, 0", "0, 0, 99, 1000, 0", "0, 0, 5, 10, 0", "0, 0, 5, 29999, 0",
            "0, 0, 5, 1000, -1", "0, 0, 5, 1000, 5"};
        for (String one : so) {
            String[] five = one.split(", ");
            StringBuilder are = new StringBuilder();
            for (int what = 0; what < 5; what++) {
                are.append("of(0, ").append(what).append(") ").append(five[what]).append('\n');
            }
            s.says(6, "by fives RUNNER, COURSE, YEAR, TIME, SHOE (-1)", TWENTY + ALL_COURSES + ALL_SHOES
                + "row(0, 2, 5) 1\nputs(0, 0, " + one + ")\nruns(0, 0, 1) 1\n" + are);
        }
    }

    private static String rowOf(int fives) {
        StringBuilder text = new StringBuilder("row(0, 2, " + 5 * fives + ") 1\n");
        for (int k = 0; k < fives; k++) {
            text.append("puts(0, ").append(5 * k).append(", 0, 0, ").append(k).append(", ").append(1000 + k).append(", 0)\n");
        }
        return text.toString();
    }

    private static void runsRefused() {
        s.says(6, "RUNS are FULL: those ahead came", SOME + """
            ran(0, 1, 1000) 0..117
            """ + rowOf(3) + """
            runs(0, 0, 3) 2
            count(3) 120
            of(118, 2) 0
            of(119, 2) 1
            runs(0, 0, 3) 0
            runs(0, 10, 1) 0
            count(3) 120
            """);
        for (int sort = 0; sort < 5; sort++) {
            s.says(6, "-12 (no ROW of ints; a SHELF that holds nothing is missing)", SOME + "row(0, " + sort + ", 5) 1\nputs(0, 0, 0, 0, 0, 100, 0)\n"
                + "runs(0, 0, 1) " + (sort == 2 ? "1" : "KIND") + "\nruns(0, 5, 1) " + (sort == 2 ? "0" : "KIND") + "\nrow(0, " + sort
                + ", 0) 1\nruns(0, 0, 1) " + (sort == 2 ? "0" : "KIND") + "\n");
        }
        s.says(6, "BAD, -12 (no ROW of ints; a SHELF that holds nothing is missing).", SOME + """
            body(0) 0
            keep(1, 0) 1
            row(2, 3, 5) 1
            runs(1, 0, 1) KIND
            runs(2, 0, 1) KIND
            runs(1, -1, 1) KIND
            runs(1, 0, 0) BAD
            runs(1, 0, 13) BAD
            runs(2, 0, 0) BAD
            runs(2, 0, 13) BAD
            runs(3, 0, 0) BAD
            runs(3, 0, 13) BAD
            ran(0, 1, 1000) 0..119
            # full, too
            runs(1, 0, 1) KIND
            runs(2, 0, 1) KIND
            runs(3, 0, 1) 0
            runs(3, 0, 13) BAD
            """);
    }

    private static void of() {
        s.says(7, "Of a RUN: 0 RUNNER, 1 COURSE, 2 YEAR, 3 TIME, 4 SHOE (-1), 5 LEVEL, 6 OLD MINUTES, 7 the which", """
            runner(1000, 50000) 0..1
            course(1000) 0
            course(1500) 1
            shoe(40, 50, 0) 1
            ran(101, 72, 1900) 0
            of(0, -1) VOID
            of(0, 0) 1
            of(0, 1) 1
            of(0, 2) 7
            of(0, 3) 1900
            of(0, 4) 1
            of(0, 5) 1266
            of(0, 6) 2000
            of(0, 7) 0
            of(0, 8) VOID
            of(0, MIN) VOID
            of(0, MAX) VOID
            """);
        s.says(7, "VOID: BAD.", """
            of(0, 0) VOID
            of(-1, 0) VOID
            new
            """ + SOME + """
            ran(0, 1, 1000) 0
            of(-1, 0) VOID
            of(0, 0) 0
            of(1, 0) VOID
            of(MIN, 0) VOID
            of(MAX, 0) VOID
            ran(0, 991, 1000) 1..119
            of(119, 2) 99
            of(120, 2) VOID
            """);
        s.says(7, "LEVEL of a RUN: TIME times 1000 by HARD (cut).", """
            runner(1000, 50000) 0
            course(500) 0
            course(2000) 1
            course(1001) 2
            ran(0, 1, 29999) 0
            ran(1, 1, 10) 1
            ran(1, 1, 11) 2
            ran(1, 1, 13) 3
            ran(2, 1, 1001) 4
            ran(2, 1, 1000) 5
            ran(2, 0, 1002) 6
            of(0, 5) 59998
            of(1, 5) 5
            of(2, 5) 5
            of(3, 5) 6
            of(4, 5) 1000
            of(5, 5) 999
            of(6, 5) 1000
            """);
        s.says(7, "TIME times 1000 by (1000 less GIVES of its SHOE) (cut; UNSEEN as it is)", SOME + """
            shoe(40, 99, 0) 1
            shoe(40, -99, 0) 2
            shoe(40, 1, 0) 3
            ran(0, 1, 29999) 0
            ran(0, 2, 29999) 1
            ran(0, 3, 29999) 2
            ran(0, 0, 29999) 3
            ran(0, 4, 998) 4
            ran(0, 4, 999) 5
            ran(0, 3, 10) 6
            of(0, 6) 29999
            of(1, 6) 33295
            of(2, 6) 27296
            of(3, 6) 29999
            of(4, 6) 998
            of(5, 6) 1000
            of(6, 6) 9
            """);
        s.says(7, "7 the which of its RUNNER's in that SHOE (from 0, by YEAR, then number; UNSEEN: -1)", """
            runner(1000, 50000) 0..1
            course(1000) 0..1
            shoe(40, 30, 0) 1..2
            ran(0, 52, 1000) 0
            ran(0, 42, 1000) 1
            ran(1, 52, 900) 2
            ran(0, 62, 1000) 3
            # of another shoe, of another runner, unseen
            ran(0, 33, 1000) 4
            ran(100, 32, 1000) 5
            ran(0, 30, 1000) 6
            ran(0, 50, 1000) 7
            of(0, 7) 1
            of(1, 7) 0
            of(2, 7) 2
            of(3, 7) 3
            of(4, 7) 0
            of(5, 7) 0
            of(6, 7) -1
            of(7, 7) -1
            mend(1, 1, -1) 1
            of(0, 7) 0
            of(1, 7) -1
            of(3, 7) 2
            """, SOME + """
            # nothing but one RUNNER's RUNS, in a full object
            ran(0, 11, 1000) 0..118
            of(0, 7) 0
            of(1, 7) 1
            of(118, 7) 118
            ran(0, 1, 1000) 119
            of(119, 7) 0
            of(0, 7) 1
            of(118, 7) 119
            """);
    }

    private static void mend() {
        s.says(8, "TIME (what 0)", SOME + """
            ran(0, 1, 1000) 0
            mend(0, 0, 9) VOID
            mend(0, 0, 10) 1000
            mend(0, 0, 29999) 10
            mend(0, 0, 30000) VOID
            mend(0, 0, -10) VOID
            mend(0, 0, MIN) VOID
            mend(0, 0, MAX) VOID
            mend(1, 0, 1000) VOID
            mend(-1, 0, 1000) VOID
            mend(MIN, 0, 1000) VOID
            mend(MAX, 0, 1000) VOID
            of(0, 3) 29999
            """);
        s.says(8, "SHOE (1; -1) of a RUN", SOME + """
            ran(0, 1, 1000) 0
            mend(0, 1, 1) VOID
            shoe(40, 30, 99) 1
            shoe(40, 30, 0) 2..5
            mend(0, 1, -2) VOID
            mend(0, 1, -1) 0
            of(0, 4) -1
            mend(0, 1, 1) -1
            mend(0, 1, 0) 1
            mend(0, 1, 5) 0
            mend(0, 1, 6) VOID
            mend(0, 1, MIN) VOID
            mend(0, 1, MAX) VOID
            mend(1, 1, 0) VOID
            mend(-1, 1, 0) VOID
            of(0, 4) 5
            """);
        s.says(8, "VOID: BAD (GIVES of SHOE 0 too).", """
            mend(0, 0, 1000) VOID
            mend(0, 1, -1) VOID
            mend(0, 2, 0) VOID
            mend(0, 2, 1) VOID
            mend(1, 2, 1) VOID
            shoe(40, 30, 0) 1
            mend(0, 2, 0) VOID
            mend(1, 2, -100) VOID
            mend(1, 2, -99) 30
            mend(1, 2, 99) -99
            mend(1, 2, 100) VOID
            mend(2, 2, 1) VOID
            mend(-1, 2, 1) VOID
            mend(1, 2, MIN) VOID
            mend(1, 2, MAX) VOID
            dead(1, 0) 99
            shoe(40, 31, 0) 2..5
            mend(5, 2, 7) 31
            mend(6, 2, 7) VOID
            """);
        s.says(8, "TIME (what 0), SHOE (1; -1) of a RUN, GIVES (2) of a SHOE becomes v: what it was.", SOME + """
            shoe(40, 30, 0) 1
            ran(0, 2, 1000) 0..1
            mend(1, -1, 20) VOID
            mend(1, 3, 20) VOID
            mend(1, MIN, 20) VOID
            mend(1, MAX, 20) VOID
            mend(1, 0, 20) 1000
            mend(1, 1, 0) 1
            mend(1, 2, 20) 30
            mend(1, 0, 20) 20
            mend(1, 1, 0) 0
            mend(1, 2, 20) 20
            of(0, 3) 1000
            of(0, 4) 1
            of(1, 3) 20
            of(1, 4) 0
            dead(1, 0) 20
            # the last run of a full object
            ran(0, 2, 1000) 2..119
            mend(119, 0, 11) 1000
            mend(120, 0, 11) VOID
            mend(120, 1, 0) VOID
            """);
    }

    private static void feed() {
        s.says(9, "n (1 .. 4) bytes come to THE TAPE, the lowest of v first: how many it has.", """
            feed(-1, 49) BAD
            feed(0, 49) BAD
            feed(5, 49) BAD
            feed(MIN, 49) BAD
            feed(MAX, 49) BAD
            count(4) 0
            # 1; then 1+; then 1+1; then 1+1+: what stands higher in v does not come
            feed(1, 2041331505) 1
            law() 0
            feed(2, 2041326385) 2
            law() -102
            feed(3, 2033265457) 3
            law() 1
            feed(4, 724642609) 4
            law() -104
            feed(1, -207) 1
            law() 2
            count(4) 0
            """);
        s.says(9, "LAWS 0 .. 3 by THE TAPE (at most 120 bytes)", """
            feed(4, 0) 4
            28 x feed(4, 0)
            count(4) 116
            feed(1, 0) 117
            feed(4, 0) FULL
            feed(3, 0) 120
            feed(1, 0) FULL
            feed(4, 0) FULL
            count(4) 120
            law() -100
            feed(1, 0) 1
            new
            29 x feed(4, 0)
            feed(4, 0) 120
            feed(1, 0) FULL
            new
            29 x feed(4, 0)
            feed(3, 0) 119
            feed(2, 0) FULL
            feed(3, 0) FULL
            feed(1, 0) 120
            """);
        // What is refused leaves the bytes that are there: 119 of a text, and then its last.
        s.says(9, "how many it has. BAD, FULL.", SOME + "shoe(40, 0, 0) 1\ntape(\"" + "0?1;".repeat(29) + "k<9\") 119\n" + """
            feed(2, 30840) FULL
            feed(4, 0) FULL
            feed(0, 0) BAD
            feed(5, 0) BAD
            feed(1, 57) 120
            feed(1, 0) FULL
            feed(4, 0) FULL
            law() 0
            race(0, 1, 0, 0) 1
            of(0, 4) 1
            """);
        s.says(9, "how many it has. BAD, FULL.", """
            30 x feed(4, 0)
            feed(1, 0) FULL
            feed(0, 0) BAD
            feed(5, 0) BAD
            feed(-1, 0) BAD
            """);
    }

    private static void law() {
        s.says(10, "THE TAPE becomes a LAW: its number; -100 less its FAULT; THE TAPE is empty then.", """
            law() -100
            law("1") 0
            count(4) 0
            count(5) 1
            law("x") -100
            count(4) 0
            count(5) 1
            # nothing of a text with a fault goes on in the next
            law("1+") -102
            law("2") 1
            law("12+x") -103
            count(5) 2
            """);
        s.says(10, "LAWS 0 .. 3", """
            law("1") 0
            law("0") 1
            law("1") 2
            law("0") 3
            law("1") FULL
            count(5) 4
            """);
        s.says(10, "FULL (it stays).", """
            law("1") 0
            law("1") 1
            law("1") 2
            law("x") -100
            law("1") 3
            law() FULL
            tape("1;0") 3
            law() FULL
            count(4) 3
            # FULL comes ahead of a FAULT
            tape("x") 4
            law() FULL
            count(4) 4
            feed(1, 0) 5
            """);
        s.says(10, "(at most 120 bytes): LINES, one or more, parted by ;", "law(\"" + "1;".repeat(59) + "11\") 0\n",
            "law(\"" + "1;".repeat(59) + "1;\") -220\n", "law(\"" + "1;".repeat(59) + "1?\") -220\n",
            "law(\"" + "1;".repeat(59) + "1x\") -219\n", "law(\"" + "1+".repeat(60) + "\") -220\n",
            "law(\"" + "1+".repeat(59) + "11\") 0\n", "law(\"" + "!".repeat(6) + "1+".repeat(56) + "11\") 0\n");
        // The last line of a full tape counts as any other.
        s.says(10, "(at most 120 bytes): LINES, one or more, parted by ;",
            SOME + "shoe(40, 0, 0) 1\nlaw(\"" + "0?1;".repeat(29) + "1?g;\") -220\nlaw(\"" + "0?1;".repeat(29) + "k<99\") 0\nrace(0, 1, 0, 0) 1\nof(0, 4) 1\n"
            + "law(\"" + "0?1;".repeat(29) + "0?1\") 1\nrace(10, 1, 0, 0) 1\nof(1, 4) 0\n");
    }

    private static void faults(String sentence, Object... textsAndPlaces) {
        StringBuilder run = new StringBuilder();
        for (int k = 0; k < textsAndPlaces.length; k += 2) {
            run.append("law(\"").append(textsAndPlaces[k]).append("\") ").append(-100 - (Integer) textsAndPlaces[k + 1]).append('\n');
        }
        s.says(10, sentence, run.append("count(5) 0\n").toString());
    }

    private static void texts(String sentence, String... texts) {
        for (String text : texts) {
            s.says(10, sentence, "law(\"" + text + "\") 0\ncount(4) 0\n");
        }
    }

    private static void lines() {
        texts("LINES, one or more, parted by ;", "1", "1;1", "1;1;1", "1?1;1", "f;t;s");
        faults("LINES, one or more, parted by ;", ";", 0, ";1", 0, "1;", 2, "1;;1", 2, "1;1;", 4, "1:1", 1, "1,1", 1, "(1;1)", 2);
        texts("LINE: E, or E ? E (what counts if the first is not 0)", "1?1", "f<9?z>9", "(1)?(1)");
        faults("LINE: E, or E ? E (what counts if the first is not 0)", "?", 0, "?1", 0, "1?", 2, "1??1", 2, "1?1?1", 3, "1?;1", 2, "(1?1)", 2,
            "1?1;1?1?1", 7);
        s.says(10, "LINE: E, or E ? E (what counts if the first is not 0)", worn("1?1", 1), worn("1?0", 0), worn("0?1", 0), worn("0-1?1", 1),
            worn("2?2", 1), worn("1", 1), worn("0", 0), worn("0-1", 1));
        s.says(10, "The first LINE without a first E, or whose first E is not 0, counts; none: 0.", worn("0?1;1", 1), worn("0?1;0", 0),
            worn("1?0;1", 0), worn("1?1;0", 1), worn("0;1", 0), worn("1;0", 1), worn("0?1;0?1", 0), worn("0?1;0?1;1?1;0", 1),
            worn("0?1;0?1;1?0;1", 0), worn("0?0;0-2?0-3;0", 1));
        faults("FAULT: the place (from 0) of the first byte with which no TEXT goes on; the length, if it ends too early.", "", 0, "x", 0, "1x", 1,
            "1+x", 2, "1+", 2, "1;x;y", 2, "(1", 2, "(1x", 2, "1+1)", 3, "!", 1, "f<t;12345", 8);
    }

    private static void grammar() {
        texts("E = A { | A }.", "1|1", "1|1|1", "1&1|1&1");
        faults("E = A { | A }.", "|", 0, "|1", 0, "1|", 2, "1||1", 2, "1|&1", 2);
        texts("A = B { & B }.", "1&1", "1&1&1");
        faults("A = B { & B }.", "&", 0, "&1", 0, "1&", 2, "1&&1", 2, "1&|1", 2);
        texts("B = S, or S < S, S = S, S > S.", "1<1", "1=1", "1>1", "1<1&1>1", "(1<1)<1", "1<(1<1)", "1<1|1=1");
        faults("B = S, or S < S, S = S, S > S.", "<1", 0, "=1", 0, ">1", 0, "1<", 2, "1=", 2, "1>", 2, "1<<1", 2, "1==1", 2, "1>=1", 2, "1<=1", 2,
            "1<1<1", 3, "1=1=1", 3, "1>1>1", 3, "1<1=1", 3, "1=1>1", 3, "1>1<1", 3, "1&1<1<1", 5);
        texts("S = P { + P, - P }.", "1+1", "1-1", "1+1-1+1", "1--1", "1<1+1", "1+1<1");
        faults("S = P { + P, - P }.", "+1", 0, "1+", 2, "1-", 2, "1++1", 2, "1-+1", 2, "1--", 3);
        texts("P = O { * O, / O, % O }.", "1*1", "1/1", "1%1", "1*1/1%1", "1*-1", "1*!1");
        faults("P = O { * O, / O, % O }.", "*1", 0, "/1", 0, "%1", 0, "1*", 2, "1/", 2, "1%", 2, "1**1", 2, "1*/1", 2, "1%%1", 2);
        texts("O = a number (1 to 4 digits), a NAME, ! O, - O, ( E ).", "!1", "-1", "(1)", "!f", "-f", "(f)", "!-1", "-!1", "!(1)", "-(1|1)", "(1|1&1<1+1*1)");
        faults("O = a number (1 to 4 digits), a NAME, ! O, - O, ( E ).", "!", 1, "-", 1, "(", 1, "()", 1, ")", 0, "(1", 2, "((1)", 4, "(1))", 3, "1!", 1,
            "1(", 1, "f(", 1, "f!", 1, "f1", 1, "1f", 1, "ff", 1, "(1)1", 3, "(1)(1)", 3, "(1)f", 3, "!+1", 1, "-|1", 1, "(|1)", 1);
        texts("a number (1 to 4 digits)", "0", "9", "12", "123", "1234", "9999", "0000", "1234+1234");
        faults("a number (1 to 4 digits)", "12345", 4, "00000", 4, "1+12345", 6, "(12345)", 5, "123456", 4);
        texts("NAMES: f FORM THEN by 10 (cut), t TRAINED, s SEX, y YEAR, p how many RUNNERS have a lesser FORM THEN, n how many RUNNERS, g GIVES, k THICK, z a draw (0 .. 99).",
            "f", "t", "s", "y", "p", "n", "g", "k", "z", "f+t+s+y+p+n+g+k+z");
        faults("No blanks.", " ", 0, " 1", 0, "1 ", 1, "1 +1", 1, "1+ 1", 2, "( 1)", 1, "1; 1", 2, "1\t", 1, "1 ;1", 1);
    }

    private static void nesting() {
        String sentence = "At most 6 of ( ! - ahead of an O are open at once.";
        texts(sentence, "((((((1))))))", "!!!!!!1", "------1", "!-(!-(1))", "(-!(-!1))", "!!!!!!1+!!!!!!1", "------1------1-------1",
            "((((((1))))))*((((((1))))))", "((((((1))))))?------1;!!!!!!1", "(!!!!!1)", "(!!!!!1+-----1)", "!!!!!(1)", "!!!!!(1-1)",
            "((((((1-1-1))))))", "(((((1))+((1)))))", "(((((1)+((1))))))", "1-------1", "!(!1+!(1)+-(-1))|!!!!!!1");
        faults(sentence, "(((((((1)))))))", 6, "!!!!!!!1", 6, "-------1", 6, "!-(!-(!1))", 6, "(-!(-!-1))", 6, "(((((((", 6, "!!!!!!!", 6, "-------", 6,
            "((((((-1))))))", 6, "((((((!1))))))", 6, "!!!!!!(1)", 6, "------(1)", 6, "------!1", 6, "!!!!!!-1", 6, "(!!!!!!1)", 6, "(!!!!!(1))", 6,
            "((((((1--1))))))", 8, "((((((1+!1))))))", 8, "((((((1+(1)))))))", 8, "------1+-------1", 14, "1--------1", 8, "(((((1)+(((1", 10);
        faults("the length, if it ends too early", "((((((", 6, "!!!!!!", 6, "------", 6, "((((((1", 7, "((((((1)))))", 12, "!(!(!(", 6);
    }

    /** Every byte, at first and behind what may stand there. */
    private static void bytes() {
        String digits = "0123456789", signs = "|&<=>+-*/%", parting = "?;";
        String sentence = "the first byte with which no TEXT goes on";
        s.says(10, sentence, everyByteBehind("", digits + "ftsypngkz", "(!-"));
        s.says(10, sentence, everyByteBehind("1", digits, signs + parting));
        s.says(10, sentence, everyByteBehind("1234", "", signs + parting));
        s.says(10, sentence, everyByteBehind("z", "", signs + parting));
        s.says(10, sentence, everyByteBehind("(1", ")", digits + signs));
        s.says(10, sentence, everyByteBehind("(1)", "", signs + parting));
        s.says(10, sentence, everyByteBehind("1<", digits + "ftsypngkz", "(!-"));
        s.says(10, sentence, everyByteBehind("1<1", digits, "|&+-*/%?;"));
        s.says(10, sentence, everyByteBehind("1?1", digits, signs + ";"));
        s.says(10, sentence, everyByteBehind("1?1;", digits + "ftsypngkz", "(!-"));
        s.says(10, sentence, everyByteBehind("------", digits + "ftsypngkz", ""));
    }

    private static String[] everyByteBehind(String text, String ending, String goingOn) {
        String[] runs = new String[256];
        int n = text.length();
        for (int b = 0; b < 256; b++) {
            String due = ending.indexOf(b) >= 0 ? "0" : goingOn.indexOf(b) >= 0 ? "" + (-101 - n) : "" + (-100 - n);
            runs[b] = (n == 0 ? "" : "tape(\"" + text + "\") " + n + "\n") + "feed(1, " + b + ") " + (n + 1) + "\nlaw() " + due + "\n";
        }
        return runs;
    }

    /** Whether the first of three wears the new shoe by that law in year 12; its draw is 48. */
    private static String worn(String text, int is) {
        return """
            runner(1209, 50371) 0
            runner(1100, 51000) 1
            runner(1400, 46000) 2
            shoe(37, 61, 12) 1
            course(1000) 0
            """ + "law(\"" + text + "\") 0\nrace(0, 121, 0, 0) 3\nof(0, 4) " + is + "\n";
    }

    private static void values() {
        s.says(10, "Ints that wrap", worn("9999*9999*22<0", 1), worn("9999*9999*21<0", 0), worn("9999*9999*22=-2095*1000*1000-407*1000-274", 1),
            worn("-(9999*9999*22)>0", 1), worn("2*2*2*2*2*2*2*2*2*2*2*2*2*2*2*2*2*2*2*2*2*2*2*2*2*2*2*2*2*2*2<0", 1),
            worn("2*2*2*2*2*2*2*2*2*2*2*2*2*2*2*2*2*2*2*2*2*2*2*2*2*2*2*2*2*2*2-1>0", 1),
            worn("2*2*2*2*2*2*2*2*2*2*2*2*2*2*2*2*2*2*2*2*2*2*2*2*2*2*2*2*2*2*2*2", 0));
        String least = "2*2*2*2*2*2*2*2*2*2*2*2*2*2*2*2*2*2*2*2*2*2*2*2*2*2*2*2*2*2*2";
        s.says(10, "/ and % toward 0, by 0 they give 0", worn("7/2=3", 1), worn("-7/2=-3", 1), worn("7/-2=-3", 1), worn("-7/-2=3", 1),
            worn("7%4=3", 1), worn("-7%4=-3", 1), worn("7%-4=3", 1), worn("-7%-4=-3", 1), worn("5/0=0", 1), worn("5/0", 0), worn("0/0=0", 1),
            worn("5%0=0", 1), worn("5%0", 0), worn("-5/0=0", 1), worn("-5%(1-1)=0", 1), worn("1/2", 0), worn("-1/2", 0),
            worn(least + "/-1<0", 1), worn("(" + least + ")%-1=0", 1));
        s.says(10, "| & < = > ! give 1, 0", worn("(0|7)=1", 1), worn("(7|0)=1", 1), worn("(7|7)=1", 1), worn("(0|0)=0", 1), worn("(5&7)=1", 1),
            worn("(5&0)=0", 1), worn("(0&5)=0", 1), worn("(0-1&0-1)=1", 1), worn("(0-1|0)=1", 1), worn("(1<2)=1", 1), worn("(2<2)=0", 1),
            worn("(3<2)=0", 1), worn("(2>1)=1", 1), worn("(2>2)=0", 1), worn("(1>2)=0", 1), worn("(2=2)=1", 1), worn("(2=1)=0", 1),
            worn("!0=1", 1), worn("!1=0", 1), worn("!9=0", 1), worn("!-9=0", 1), worn("-1<0", 1), worn("0-1>0", 0));
        // Nothing is passed over: a lesser number would be left if the second were not worked out, but no answer tells; a fault does.
        faults("all is worked out", "1|x", 2, "0&x", 2, "1|1/", 4, "0&12345", 6, "1?1;x", 4, "0?x", 2);
        s.says(10, "S = P { + P, - P }. P = O { * O, / O, % O }.", worn("2+3*4=14", 1), worn("(2+3)*4=20", 1), worn("10-3-2=5", 1), worn("100/10/2=5", 1),
            worn("100/10*2=20", 1), worn("7%4%2=1", 1), worn("-f+f=0", 1), worn("f--f=240", 1), worn("!f+1=1", 1), worn("!0*0", 0), worn("-2*-2=4", 1));
        s.says(10, "E = A { | A }. A = B { & B }. B = S, or S < S, S = S, S > S.", worn("1|0&0", 1), worn("0&0|1", 1), worn("1<2&3<2", 0),
            worn("3<2|1<2", 1), worn("1+1=2", 1), worn("0|0|3", 1), worn("1&1&0", 0), worn("0|1=2", 0));
        s.says(10, "a number (1 to 4 digits)", worn("9999=9*1111", 1), worn("0007=7", 1), worn("0100=100", 1), worn("0000", 0), worn("10-10", 0));
    }

    private static void names() {
        // By runner 0 of three in year 12, with shoe 1: form 1209, trained 37, sex 1.
        s.says(10, "NAMES: f FORM THEN by 10 (cut), t TRAINED, s SEX, y YEAR,", worn("f=120", 1), worn("t=37", 1), worn("s=1", 1), worn("y=12", 1));
        s.says(10, "p how many RUNNERS have a lesser FORM THEN, n how many RUNNERS, g GIVES, k THICK, z a draw (0 .. 99).", worn("p=1", 1), worn("n=3", 1),
            worn("g=61", 1), worn("k=37", 1), worn("z=48", 1));
        s.says(10, "f FORM THEN by 10 (cut)", """
            runner(1009, 50000) 0
            runner(1010, 50000) 1
            runner(600, 0) 2
            runner(9999, 100000) 3
            course(500) 0
            shoe(40, 0, 0) 1
            law("f=100|f=60|f=1494") 0
            law("f=101|f=60|f=1494") 1
            race(0, 991, 0, 0) 4
            of(0, 4) 1
            of(1, 4) 0
            of(2, 4) 1
            of(3, 4) 1
            race(10, 991, 0, 0) 4
            of(4, 4) 0
            of(5, 4) 1
            """);
        s.says(10, "p how many RUNNERS have a lesser FORM THEN", """
            # in year 0: 1000, 1000, 1001; in year 1: 1050, 1000, 1001
            runner(1000, 100000) 0
            runner(1000, 50000) 1
            runner(1001, 50000) 2
            course(1000) 0
            shoe(40, 0, 0) 1
            law("p") 0
            law("p=2") 1
            race(0, 1, 0, 0) 3
            of(0, 4) 0
            of(1, 4) 0
            of(2, 4) 1
            race(10, 1, 0, 0) 3
            of(3, 4) 0
            of(4, 4) 0
            of(5, 4) 1
            race(0, 11, 0, 0) 3
            of(6, 4) 1
            of(7, 4) 0
            of(8, 4) 1
            race(10, 11, 0, 0) 3
            of(9, 4) 1
            of(10, 4) 0
            of(11, 4) 0
            """);
        s.says(10, "n how many RUNNERS", TWENTY + """
            course(1000) 0
            shoe(40, 0, 0) 1
            law("n=20&p=0") 0
            race(0, 1, 0, 0) 20
            of(0, 4) 1
            of(19, 4) 1
            """, SOME + """
            shoe(40, 0, 0) 1
            law("n=1") 0
            race(0, 1, 0, 0) 1
            of(0, 4) 1
            """);
        s.says(10, "g GIVES, k THICK", SOME + """
            shoe(99, -99, 0) 1
            shoe(1, 99, 0) 2
            law("g=-99&k=99") 0
            law("g=99&k=1") 1
            law("g=5") 2
            race(0, 1, 0, 0) 1
            race(0, 2, 0, 0) 1
            race(10, 2, 0, 0) 1
            of(0, 4) 1
            of(1, 4) 0
            of(2, 4) 2
            # told shoes are what they are now
            mend(1, 2, 5) -99
            race(20, 1, 0, 0) 1
            of(3, 4) 1
            """);
        s.says(10, "z a draw (0 .. 99)", SOME + """
            shoe(40, 0, 0) 1
            law("z=0") 0
            law("z=99") 1
            law("z<0|z>99") 2
            # seed 61 draws 0, seed 18 draws 99, seeds 60 and 19 neither
            race(0, 1, 0, 61) 1
            race(10, 1, 0, 18) 1
            race(0, 1, 0, 18) 1
            race(10, 1, 0, 61) 1
            race(20, 1, 0, 61) 1
            race(20, 1, 0, 18) 1
            of(0, 4) 1
            of(1, 4) 1
            of(2, 4) 0
            of(3, 4) 0
            of(4, 4) 0
            of(5, 4) 0
            """);
    }

    private static void eyes() {
        s.says(11, "EYES become v: what they were. BAD.", """
            eyes(-1) BAD
            eyes(101) BAD
            eyes(MIN) BAD
            eyes(MAX) BAD
            eyes(0) 100
            eyes(100) 0
            eyes(1) 100
            eyes(99) 1
            eyes(99) 99
            eyes(101) BAD
            eyes(50) 99
            """);
        s.says(11, "EYES (0 .. 100, told; 100 at first)", """
            eyes(100) 100
            new
            """ + SOME + """
            law("1") 0
            # seed 307 draws 0 for the photograph, seed 696 99, seed 0 75
            race(0, 0, 0, 696) 1
            of(0, 4) 0
            eyes(0) 100
            race(0, 0, 0, 307) 1
            of(1, 4) -1
            eyes(1) 0
            race(0, 0, 0, 307) 1
            of(2, 4) 0
            eyes(99) 1
            race(0, 0, 0, 696) 1
            of(3, 4) -1
            """);
        s.says(11, "SEEN, if (z >>> 8) % 100 is below EYES", SOME + """
            law("1") 0
            eyes(75) 100
            race(0, 0, 0, 0) 1
            of(0, 4) -1
            eyes(76) 75
            race(0, 0, 0, 0) 1
            of(1, 4) 0
            """);
    }

    private static final String THREE = """
        runner(1000, 50000) 0
        runner(2000, 50000) 1
        runner(3000, 50000) 2
        course(1000) 0
        shoe(40, 50, 5) 1
        law("z<50") 0
        """;

    private static void raceTold() {
        s.says(12, "lc: 10 times the LAW, and the COURSE", THREE + """
            race(-1, 51, 0, 0) BAD
            race(-10, 51, 0, 0) BAD
            race(1, 51, 0, 0) BAD
            race(9, 51, 0, 0) BAD
            race(10, 51, 0, 0) BAD
            race(MIN, 51, 0, 0) BAD
            race(MAX, 51, 0, 0) BAD
            count(3) 0
            race(0, 51, 0, 0) 3
            new
            """ + SOME + """
            race(0, 1, 0, 0) BAD
            new
            runner(1000, 50000) 0
            law("1") 0
            race(0, 0, 0, 0) BAD
            new
            """ + SOME + """
            course(1000) 1..4
            law("1") 0
            law("1") 1
            law("1") 2
            law("0") 3
            shoe(40, 0, 0) 1
            race(34, 1, 0, 0) 1
            of(0, 1) 4
            of(0, 4) 0
            race(4, 1, 0, 0) 1
            of(1, 4) 1
            race(35, 1, 0, 0) BAD
            race(39, 1, 0, 0) BAD
            race(40, 1, 0, 0) BAD
            """);
        s.says(12, "ys: 10 times the YEAR, and the SHOE.", THREE + """
            race(0, -1, 0, 0) BAD
            race(0, -10, 0, 0) BAD
            race(0, 52, 0, 0) BAD
            race(0, 59, 0, 0) BAD
            race(0, 1000, 0, 0) BAD
            race(0, 1001, 0, 0) BAD
            race(0, MIN, 0, 0) BAD
            race(0, MAX, 0, 0) BAD
            count(3) 0
            race(0, 0, 0, 0) 3
            race(0, 991, 0, 0) 3
            of(0, 2) 0
            of(3, 2) 99
            shoe(40, 0, 0) 2..5
            law("1") 1
            race(10, 55, 0, 0) 3
            of(6, 4) 5
            race(10, 56, 0, 0) BAD
            """);
        s.says(12, "with a SHOE (MADE then or before, else BAD)", THREE + """
            race(0, 41, 0, 0) BAD
            race(0, 1, 0, 0) BAD
            count(3) 0
            race(0, 51, 0, 0) 3
            race(0, 61, 0, 0) 3
            race(0, 40, 0, 0) 3
            new
            """ + SOME + """
            shoe(40, 0, 99) 1
            shoe(40, 0, 0) 2
            law("0") 0
            race(0, 981, 0, 0) BAD
            race(0, 991, 0, 0) 1
            race(0, 2, 0, 0) 1
            """);
        s.says(12, "a DAY (-50 .. 50 thousandths more)", SOME + """
            law("1") 0
            race(0, 0, -51, 13) BAD
            race(0, 0, 51, 13) BAD
            race(0, 0, MIN, 13) BAD
            race(0, 0, MAX, 13) BAD
            count(3) 0
            # by seed 13 the good day is 0
            race(0, 0, -50, 13) 1
            race(0, 0, 50, 13) 1
            race(0, 0, 0, 13) 1
            of(0, 3) 950
            of(1, 3) 1050
            of(2, 3) 1000
            """);
        s.says(12, "STATE: there would be more than 120.", TWENTY + """
            course(1000) 0
            law("1") 0
            6 x race(0, 0, 0, 0) 20
            count(3) 120
            race(0, 0, 0, 0) STATE
            count(3) 120
            new
            """ + TWENTY + """
            course(1000) 0
            law("1") 0
            5 x race(0, 0, 0, 0) 20
            ran(0, 1, 1000) 100
            race(0, 0, 0, 0) STATE
            count(3) 101
            ran(0, 1, 1000) 101
            """, SOME + """
            law("1") 0
            ran(0, 1, 1000) 0..118
            race(0, 0, 0, 0) 1
            race(0, 0, 0, 0) STATE
            count(3) 120
            """);
        s.says(12, "A RACE is RUN: how many RUNS came. lc: 10 times the LAW, and the COURSE; ys: 10 times the YEAR, and the SHOE. BAD; STATE: there would be more than 120.",
            SOME + """
            law("1") 0
            shoe(40, 0, 5) 1
            ran(0, 1, 1000) 0..119
            race(0, 0, 0, 0) STATE
            race(1, 0, 0, 0) BAD
            race(10, 0, 0, 0) BAD
            race(-1, 0, 0, 0) BAD
            race(0, -1, 0, 0) BAD
            race(0, 1000, 0, 0) BAD
            race(0, 2, 0, 0) BAD
            race(0, 41, 0, 0) BAD
            race(0, 0, 51, 0) BAD
            race(0, 0, -51, 0) BAD
            """, """
            # none to run
            course(1000) 0
            law("1") 0
            race(0, 0, 0, 0) 0
            count(3) 0
            """);
    }

    private static void raceRun() {
        s.says(12, "FORM THEN: FORM and DRIFT times the YEAR, 600 at least.", """
            # by seed 13 the good day of the first is 0
            runner(700, 0) 0
            course(1000) 0
            law("0") 0
            race(0, 0, 0, 13) 1
            race(0, 10, 0, 13) 1
            race(0, 20, 0, 13) 1
            race(0, 30, 0, 13) 1
            race(0, 990, 0, 13) 1
            of(0, 3) 700
            of(1, 3) 650
            of(2, 3) 600
            of(3, 3) 600
            of(4, 3) 600
            new
            runner(699, 49000) 0
            course(1000) 0
            law("0") 0
            race(0, 980, 0, 13) 1
            race(0, 990, 0, 13) 1
            of(0, 3) 601
            of(1, 3) 600
            """);
        s.says(12, "FORM THEN times HARD / 1000 (cut), times (1000 and DAY and e less GIVES of what it wears) / 1000 (cut)", """
            # 1001 by 1500 is 1501, cut; of that 951 thousandths are 1427, cut; 1001 once more are 1502
            runner(1001, 50000) 0
            course(1500) 0
            shoe(40, 49, 0) 1
            law("1") 0
            race(0, 1, 0, 13) 1
            race(0, 0, 1, 13) 1
            of(0, 3) 1427
            of(1, 3) 1502
            """);
        s.says(12, "held within 10 .. 29999", """
            # the greatest: 14949 by 2000, and 1000 + 50 + 10 + 99 thousandths (seed 44: 10)
            runner(9999, 100000) 0
            course(2000) 0
            shoe(40, -99, 0) 1
            law("1") 0
            race(0, 991, 50, 44) 1
            of(0, 3) 29999
            race(0, 990, 0, 13) 1
            of(1, 3) 29898
            # 14949 by 2000 in a day of 3 more is 29987, of 4 more 30017
            race(0, 990, 3, 13) 1
            race(0, 990, 4, 13) 1
            of(2, 3) 29987
            of(3, 3) 29999
            new
            # the least: 600 by 500, and 1000 - 50 - 10 - 99 thousandths (seed 40: -10)
            runner(600, 0) 0
            course(500) 0
            shoe(40, 99, 0) 1
            law("1") 0
            race(0, 991, -50, 40) 1
            of(0, 3) 252
            """);
        s.says(12, "it wears that SHOE, if the LAW is not 0, else SHOE 0", SOME + """
            shoe(40, 99, 0) 1
            law("0") 0
            law("1") 1
            law("-1") 2
            law("0?1") 3
            race(0, 1, 0, 13) 1
            race(10, 1, 0, 13) 1
            race(20, 1, 0, 13) 1
            race(30, 1, 0, 13) 1
            of(0, 4) 0
            of(1, 4) 1
            of(2, 4) 1
            of(3, 4) 0
            # what it wears gives
            of(0, 3) 1000
            of(1, 3) 901
            """, SOME + """
            # it wears what the photograph does not show
            shoe(40, 99, 0) 1
            law("1") 0
            eyes(0) 100
            race(0, 1, 0, 13) 1
            of(0, 3) 901
            of(0, 4) -1
            """);
    }

    private static void raceDrawn() {
        s.says(12, "each RUNNER in order: z = z * 1103515245 + 12345 (an int; SEED at first): draw (z >>> 8) % 100", THREE + """
            # seed 0: draws 48, 88, 18; good days 5, -1, 2; photographs 75, 48, 13
            eyes(50) 100
            race(0, 51, 0, 0) 3
            of(0, 0) 0
            of(0, 3) 955
            of(0, 4) -1
            of(1, 0) 1
            of(1, 3) 1998
            of(1, 4) 0
            of(2, 0) 2
            of(2, 3) 2856
            of(2, 4) 1
            """);
        s.says(12, "(an int; SEED at first)", THREE + """
            law("z=56&p=0|z=80&p=1|z=26&p=2") 1
            law("z=49&p=0|z=65&p=1|z=95&p=2") 2
            law("z=57&p=0|z=73&p=1|z=3&p=2") 3
            race(10, 51, 0, MIN) 3
            race(20, 51, 0, MAX) 3
            race(30, 51, 0, -1) 3
            of(0, 4) 1
            of(1, 4) 1
            of(2, 4) 1
            of(3, 4) 1
            of(4, 4) 1
            of(5, 4) 1
            of(6, 4) 1
            of(7, 4) 1
            of(8, 4) 1
            """);
        s.says(12, "z again: a good day: e = (z >>> 8) % 21 less 10 (thousandths)", SOME + """
            law("0") 0
            # seeds 40, 13, 44: -10, 0, 10
            race(0, 0, 0, 40) 1
            race(0, 0, 0, 13) 1
            race(0, 0, 0, 44) 1
            of(0, 3) 990
            of(1, 3) 1000
            of(2, 3) 1010
            """);
        s.says(12, "A RACE: all RUNS of a COURSE and YEAR.", """
            # told ones and drawn ones, of one course and year, are one race
            runner(1000, 50000) 0
            course(1000) 0..1
            shoe(40, 50, 0) 1
            law("1") 0
            race(0, 51, 0, 13) 1
            of(0, 3) 950
            gain(1) VOID
            ran(0, 61, 1000) 1
            gain(1) VOID
            ran(1, 51, 1000) 2
            gain(1) VOID
            ran(0, 51, 1000) 3
            gain(1) 50
            """);
    }
}
