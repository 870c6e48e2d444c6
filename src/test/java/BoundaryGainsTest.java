/** Promises 13 to 27, sentence by sentence: changed, beside, bounds; the belt, records and rules; what is undone. */
public final class BoundaryGainsTest {
    // ys is 10 times the YEAR, and 0 for UNSEEN, 1 for OLD, 2 for NEW.
    private static final String SOME = """
        runner(1000, 50000) 0..3
        course(1000) 0
        shoe(40, 30, 0) 1
        """;
    private static Sentences s;

    public static void main(String[] args) throws Exception {
        s = new Sentences();
        changed();
        oldAndNew();
        pairs();
        since();
        beside();
        bounds();
        unseen();
        unseenOrNot();
        person();
        shares();
        led();
        point();
        belt();
        records();
        best();
        rule();
        dead();
        needed();
        neededOrNot();
        undo();
        redo();
        s.ends(13, 27);
    }

    private static void changed() {
        s.says(13, "CHANGED of a sort (0 .. 3): mean (what 0), how many PAIRS (1). VOID: BAD, NOT (what 0).", """
            changed(-1, 0) VOID
            changed(-1, 1) VOID
            changed(0, -1) VOID
            changed(0, 0) VOID
            changed(0, 1) 0
            changed(0, 2) VOID
            changed(3, 0) VOID
            changed(3, 1) 0
            changed(4, 0) VOID
            changed(4, 1) VOID
            changed(MIN, MIN) VOID
            changed(MAX, MAX) VOID
            """);
        s.says(13, "over PAIRS that go from OLD to NEW (0), from NEW to OLD (1), OLD both (2), NEW both (3); NOT: none.", SOME + """
            ran(0, 11, 1000) 0
            changed(0, 1) 0
            ran(0, 22, 900) 1
            changed(0, 0) 100
            changed(0, 1) 1
            changed(1, 0) VOID
            changed(1, 1) 0
            changed(2, 0) VOID
            changed(2, 1) 0
            changed(3, 0) VOID
            changed(3, 1) 0
            ran(0, 32, 990) 2
            ran(0, 41, 980) 3
            ran(0, 51, 979) 4
            changed(0, 0) 100
            changed(1, 0) 10
            changed(2, 0) 1
            changed(3, 0) -100
            changed(0, 1) 1
            changed(1, 1) 1
            changed(2, 1) 1
            changed(3, 1) 1
            """);
        s.says(13, "GAINED: thousandths (cut): (LEVEL of the first less that of the second) times 1000 by that of the first.", SOME + """
            ran(0, 11, 2000) 0
            ran(0, 21, 2003) 1
            changed(2, 0) -1
            mend(1, 0, 2001) 2003
            changed(2, 0) 0
            mend(1, 0, 1999) 2001
            changed(2, 0) 0
            mend(1, 0, 1997) 1999
            changed(2, 0) 1
            mend(1, 0, 2000) 1997
            changed(2, 0) 0
            changed(2, 1) 1
            """, """
            # the farthest: from the greatest LEVEL to the least, and back
            runner(1000, 50000) 0
            course(500) 0
            course(2000) 1
            ran(0, 11, 29999) 0
            ran(1, 21, 10) 1
            changed(2, 0) 999
            ran(0, 31, 29999) 2
            mend(0, 1, -1) 0
            changed(2, 0) -11998600
            """);
        s.says(13, "CHANGED: mean GAINED (cut)", SOME + """
            # 1 and 2; then -1 and -2
            ran(0, 11, 1000) 0
            ran(0, 21, 999) 1
            ran(100, 11, 1000) 2
            ran(100, 21, 998) 3
            changed(2, 0) 1
            mend(1, 0, 1001) 999
            mend(3, 0, 1002) 998
            changed(2, 0) -1
            changed(2, 1) 2
            """);
    }

    private static void oldAndNew() {
        s.says(13, "NEW: a RUN in a SHOE that GIVES more than 0 (told SHOES are what they are now); OLD: in another one.", SOME + """
            shoe(40, 1, 0) 2
            shoe(40, 0, 0) 3
            shoe(40, -1, 0) 4
            shoe(40, -99, 0) 5
            ran(0, 1, 1000) 0
            ran(0, 13, 900) 1
            changed(0, 1) 1
            ran(100, 1, 1000) 2
            ran(100, 14, 900) 3
            changed(0, 1) 1
            changed(2, 1) 1
            ran(200, 1, 1000) 4
            ran(200, 15, 900) 5
            changed(0, 1) 1
            changed(2, 1) 2
            ran(300, 1, 1000) 6
            ran(300, 16, 900) 7
            changed(2, 1) 3
            """, SOME + """
            ran(0, 1, 1000) 0
            ran(0, 12, 900) 1
            changed(0, 1) 1
            mend(1, 2, 0) 30
            changed(0, 1) 0
            changed(2, 1) 1
            mend(1, 2, 1) 0
            changed(0, 1) 1
            mend(1, 2, -1) 1
            changed(2, 1) 1
            """);
    }

    private static void pairs() {
        String sentence = "PAIRS of a RUNNER: each RUN and the next one of the same RUNNER (by YEAR, of like ones by number) with both SEEN.";
        s.says(13, sentence, SOME + """
            # by year, not by number
            ran(0, 52, 900) 0
            changed(0, 1) 0
            ran(0, 41, 1000) 1
            changed(0, 0) 100
            changed(0, 1) 1
            changed(1, 1) 0
            """, SOME + """
            # of like years by number
            ran(0, 51, 1000) 0
            ran(0, 52, 900) 1
            ran(0, 51, 950) 2
            changed(0, 0) 100
            changed(1, 0) -55
            changed(0, 1) 1
            changed(1, 1) 1
            """, SOME + """
            # the last of one and the first of another are none
            ran(0, 51, 1000) 0
            ran(100, 62, 900) 1
            ran(200, 51, 1000) 2
            changed(0, 1) 0
            changed(1, 1) 0
            changed(2, 1) 0
            ran(100, 61, 900) 3
            changed(1, 1) 1
            """, SOME + """
            # one that is unseen parts them, and is of none
            ran(0, 11, 1000) 0
            ran(0, 20, 950) 1
            ran(0, 32, 900) 2
            changed(0, 1) 0
            changed(1, 1) 0
            changed(2, 1) 0
            changed(3, 1) 0
            mend(1, 1, 0) -1
            changed(2, 1) 1
            changed(0, 1) 1
            mend(2, 1, -1) 1
            changed(0, 1) 0
            changed(2, 1) 1
            """, """
            # over courses, by LEVEL
            runner(1000, 50000) 0
            course(1000) 0
            course(2000) 1
            shoe(40, 30, 0) 1
            ran(0, 11, 1000) 0
            ran(1, 22, 1800) 1
            changed(0, 0) 100
            """, SOME + """
            # of a full object, from the first to the last
            ran(0, 1, 1000) 0..118
            changed(2, 1) 118
            changed(2, 0) 0
            ran(0, 992, 900) 119
            changed(2, 1) 118
            changed(0, 1) 1
            changed(0, 0) 100
            """);
    }

    private static void since() {
        s.says(14, "SINCE (what 0), BESIDE (1), LEANS (2), BOUNDS: least (3), greatest (4). VOID: BAD, NOT (of either).", """
            gain(-1) VOID
            gain(0) VOID
            gain(1) VOID
            gain(2) VOID
            gain(3) VOID
            gain(4) VOID
            gain(5) VOID
            gain(MIN) VOID
            gain(MAX) VOID
            new
            """ + SOME + """
            # SINCE 100 less -20, BESIDE 50
            ran(0, 11, 1000) 0
            ran(0, 21, 1020) 1
            ran(0, 32, 918) 2
            ran(100, 51, 1000) 3
            ran(200, 52, 950) 4
            gain(-1) VOID
            gain(0) 120
            gain(1) 50
            gain(2) -70
            gain(3) 50
            gain(4) 120
            gain(5) VOID
            """);
        s.says(14, "SINCE: the mean of sort 0 less that of sort 2.", SOME + """
            # no PAIR OLD both
            ran(0, 11, 1000) 0
            ran(0, 22, 900) 1
            changed(0, 0) 100
            gain(0) VOID
            gain(3) VOID
            ran(100, 11, 1000) 2
            ran(100, 21, 1001) 3
            gain(0) 101
            # no PAIR from OLD to NEW
            mend(1, 1, -1) 1
            changed(2, 0) -1
            gain(0) VOID
            """, SOME + """
            # both are 0, and are there
            ran(0, 11, 1000) 0
            ran(0, 21, 1000) 1
            ran(0, 32, 1000) 2
            gain(0) 0
            gain(3) 0
            gain(4) 0
            """);
    }

    private static void beside() {
        String sentence = "BESIDE: over RACES with both: mean LEVEL of OLD less that of NEW, times 1000 by that of OLD (cut each): "
            + "the mean over RACES (cut); NOT: none.";
        s.says(14, sentence, SOME + """
            ran(0, 51, 1000) 0
            gain(1) VOID
            ran(100, 51, 1000) 1
            gain(1) VOID
            # another year, another course, and unseen: not both
            ran(200, 62, 900) 2
            gain(1) VOID
            course(1000) 1
            ran(201, 52, 900) 3
            gain(1) VOID
            ran(200, 50, 900) 4
            gain(1) VOID
            mend(4, 1, 1) -1
            gain(1) 100
            # whatever was asked ahead
            mend(2, 0, 10) 900
            person(2) VOID
            gain(1) 100
            unseen(5, 0) VOID
            gain(1) 100
            led() NOT
            gain(1) 100
            mend(0, 1, 1) 0
            gain(1) 50
            mend(1, 1, 1) 0
            gain(1) VOID
            """, SOME + """
            # means are cut: 1000 of 1000 and 1001, 900 of 900 and 901
            ran(0, 51, 1000) 0
            ran(100, 51, 1001) 1
            ran(200, 52, 900) 2
            ran(300, 52, 901) 3
            gain(1) 100
            """, SOME + """
            # what is gained is cut toward 0
            ran(0, 51, 2000) 0
            ran(100, 52, 2003) 1
            gain(1) -1
            mend(1, 0, 2001) 2003
            gain(1) 0
            mend(1, 0, 1997) 2001
            gain(1) 1
            """, SOME + """
            # the mean of RACES is cut toward 0: 100 and 101, -100 and -101
            ran(0, 1, 1000) 0
            ran(100, 2, 900) 1
            ran(0, 991, 1000) 2
            ran(100, 992, 899) 3
            gain(1) 100
            mend(1, 0, 1100) 900
            mend(3, 0, 1101) 899
            gain(1) -100
            # a RACE without both is none
            ran(0, 501, 1000) 4
            ran(0, 602, 10) 5
            gain(1) -100
            # one without what is unseen
            ran(200, 0, 10) 6
            gain(1) -100
            """, """
            # the first and the last of courses
            runner(1000, 50000) 0..1
            course(1000) 0..3
            course(500) 4
            shoe(40, 30, 0) 1
            ran(4, 991, 1000) 0
            ran(104, 992, 800) 1
            gain(1) 200
            ran(0, 991, 1000) 2
            ran(100, 992, 900) 3
            gain(1) 150
            """);
        s.says(14, "LEANS: BESIDE less SINCE.", SOME + """
            # BESIDE alone, SINCE alone, both
            ran(0, 51, 1000) 0
            ran(100, 52, 900) 1
            gain(1) 100
            gain(2) VOID
            new
            """ + SOME + """
            ran(0, 11, 1000) 0
            ran(0, 21, 1000) 1
            ran(0, 32, 900) 2
            gain(0) 100
            gain(2) VOID
            ran(100, 32, 1000) 3
            ran(200, 31, 1000) 4
            gain(1) 50
            gain(2) -50
            """);
    }

    private static void bounds() {
        String sentence = "BOUNDS by all of SINCE, BESIDE, and less the mean of sort 1, that there are: the least, the greatest; NOT: none.";
        s.says(14, sentence, SOME + """
            # less the mean of sort 1 alone
            ran(0, 12, 1000) 0
            ran(0, 21, 1100) 1
            gain(0) VOID
            gain(1) VOID
            gain(3) 100
            gain(4) 100
            mend(1, 0, 900) 1100
            gain(3) -100
            gain(4) -100
            """, SOME + """
            # SINCE alone
            ran(0, 11, 1000) 0
            ran(0, 21, 1000) 1
            ran(0, 32, 900) 2
            gain(3) 100
            gain(4) 100
            """, SOME + """
            # BESIDE alone
            ran(0, 11, 1000) 0
            ran(100, 12, 930) 1
            gain(3) 70
            gain(4) 70
            """, SOME + """
            # neither: the mean of sort 0 or of sort 2 alone is no bound
            ran(0, 11, 1000) 0
            ran(0, 22, 900) 1
            gain(3) VOID
            gain(4) VOID
            mend(1, 1, 0) 1
            gain(3) VOID
            gain(4) VOID
            """, SOME + """
            # SINCE 100; BESIDE 50, 150; less the mean of sort 1: 70, 200, 10
            runner(1000, 50000) 4
            ran(0, 11, 1000) 0
            ran(0, 21, 1000) 1
            ran(0, 32, 900) 2
            ran(100, 501, 1000) 3
            ran(200, 502, 950) 4
            ran(300, 602, 1000) 5
            ran(300, 611, 1070) 6
            gain(3) 50
            gain(4) 100
            mend(4, 0, 850) 950
            gain(3) 70
            gain(4) 150
            mend(6, 0, 1200) 1070
            gain(3) 100
            gain(4) 200
            mend(6, 0, 1010) 1200
            gain(3) 10
            gain(4) 150
            mend(4, 0, 1000) 850
            gain(3) 0
            gain(4) 100
            mend(6, 0, 950) 1010
            gain(3) -50
            gain(4) 100
            """);
    }

    private static void unseen() {
        s.says(15, "UNSEEN of a RACE (cy: 100 times the COURSE, and the YEAR): least (what 0), greatest (1).", """
            runner(1000, 50000) 0..1
            course(1000) 0
            ran(0, 0, 1000) 0
            ran(100, 0, 500) 1
            unseen(0, -1) VOID
            unseen(0, 0) -1000
            unseen(0, 1) 500
            unseen(0, 2) VOID
            unseen(0, MIN) VOID
            unseen(0, MAX) VOID
            unseen(-1, 0) VOID
            unseen(-99, 0) VOID
            unseen(-100, 0) VOID
            unseen(MIN, 0) VOID
            unseen(MAX, 0) VOID
            unseen(1, 0) VOID
            unseen(100, 0) VOID
            ran(0, 990, 1000) 2
            ran(100, 990, 600) 3
            unseen(99, 0) -666
            unseen(99, 1) 400
            new
            runner(1000, 50000) 0..1
            course(1000) 0..4
            ran(4, 990, 1000) 0
            ran(104, 990, 800) 1
            ran(4, 0, 1000) 2
            ran(104, 0, 900) 3
            unseen(499, 1) 200
            unseen(400, 1) 100
            unseen(399, 1) VOID
            unseen(500, 1) VOID
            unseen(599, 1) VOID
            new
            unseen(0, 0) VOID
            """);
        s.says(15, "the least and greatest that BESIDE of that RACE alone can be, over all ways to say OLD or NEW of these", SOME + """
            # old: 975 and 900; new: 1000 and 925
            ran(0, 51, 1000) 0
            ran(100, 52, 900) 1
            ran(200, 50, 950) 2
            unseen(5, 0) 75
            unseen(5, 1) 76
            # another RACE is another
            ran(0, 61, 1000) 3
            ran(100, 62, 10) 4
            unseen(5, 0) 75
            unseen(5, 1) 76
            # two: old 900 and 1000, new 900 and 950 .. old 1000 and 950, new 900 and 800
            ran(300, 50, 800) 5
            unseen(5, 0) -27
            unseen(5, 1) 128
            """, SOME + """
            # OLD alone is seen: one at least is said NEW
            ran(0, 51, 1000) 0
            ran(100, 50, 900) 1
            unseen(5, 0) 100
            unseen(5, 1) 100
            # NEW of the two: both (1000, 800), 900 (850, 900), 700 (950, 700)
            ran(200, 50, 700) 2
            unseen(5, 0) -58
            unseen(5, 1) 263
            """, SOME + """
            # NEW alone is seen: one at least is said OLD
            ran(0, 52, 900) 0
            ran(100, 50, 1000) 1
            unseen(5, 0) 100
            unseen(5, 1) 100
            # OLD of the two: both (800, 900), 1000 (1000, 750), 600 (600, 950)
            ran(200, 50, 600) 2
            unseen(5, 0) -583
            unseen(5, 1) 250
            """, """
            # by LEVEL, not by TIME: 1000 and 500, the one NEW or the other
            runner(1000, 50000) 0..1
            course(2000) 0
            ran(0, 50, 2000) 0
            ran(100, 50, 1001) 1
            unseen(5, 0) -1000
            unseen(5, 1) 500
            mend(0, 0, 1999) 2000
            unseen(5, 0) -998
            unseen(5, 1) 499
            """);
    }

    private static void unseenOrNot() {
        String twelve = """
            ran(0, 50, 1000) 0
            ran(0, 50, 1100) 1
            ran(0, 50, 1200) 2
            ran(0, 50, 1300) 3
            ran(0, 50, 1400) 4
            ran(0, 50, 1500) 5
            ran(0, 50, 1600) 6
            ran(0, 50, 1700) 7
            ran(0, 50, 1800) 8
            ran(0, 50, 1900) 9
            ran(0, 50, 2000) 10
            """;
        s.says(15, "(at most 12, else BIG)", SOME + twelve + """
            unseen(5, 0) -550
            unseen(5, 1) 354
            ran(0, 50, 2100) 11
            # NEW is all but the least (1600 by 1000), or the least alone (1000 by 1600)
            unseen(5, 0) -600
            unseen(5, 1) 375
            # those that are seen do not count as such (seven NEW: 1250 by 1800)
            ran(0, 51, 1500) 12
            unseen(5, 0) -440
            ran(0, 50, 1500) 13
            unseen(5, 0) VOID
            unseen(5, 1) VOID
            # of another RACE
            ran(0, 60, 1500) 14
            ran(0, 60, 1500) 15
            unseen(6, 0) 0
            # twelve again (five NEW: 1344 by 1900)
            mend(13, 1, 0) -1
            unseen(5, 0) -413
            """);
        s.says(15, "NOT: none is UNSEEN, or in no way both are there.", SOME + """
            unseen(5, 0) VOID
            ran(0, 51, 1000) 0
            ran(100, 52, 900) 1
            unseen(5, 0) VOID
            unseen(5, 1) VOID
            # one unseen, and nothing else
            ran(0, 60, 1000) 2
            unseen(6, 0) VOID
            unseen(6, 1) VOID
            ran(100, 60, 1000) 3
            unseen(6, 0) 0
            unseen(6, 1) 0
            # one unseen beside OLD, beside NEW
            ran(0, 71, 1000) 4
            ran(100, 70, 990) 5
            unseen(7, 0) 10
            ran(0, 82, 1000) 6
            ran(100, 80, 2000) 7
            unseen(8, 1) 500
            """);
        s.says(15, "VOID: BAD, BIG, NOT.", SOME + twelve + """
            ran(0, 50, 2100) 11
            ran(0, 50, 2200) 12
            unseen(5, 0) VOID
            unseen(5, 2) VOID
            unseen(105, 0) VOID
            """);
    }

    private static void person() {
        s.says(16, "GAINS of a RUNNER. VOID: BAD, NOT.", """
            person(0) VOID
            person(-1) VOID
            new
            """ + SOME + """
            ran(0, 11, 1000) 0
            ran(0, 12, 900) 1
            ran(300, 11, 1000) 2
            ran(300, 12, 800) 3
            person(-1) VOID
            person(0) 100
            person(1) VOID
            person(3) 200
            person(4) VOID
            person(MIN) VOID
            person(MAX) VOID
            new
            runner(1000, 50000) 0..19
            course(1000) 0
            shoe(40, 30, 0) 1
            ran(1900, 11, 1000) 0
            ran(1900, 12, 990) 1
            person(19) 10
            person(20) VOID
            """);
        s.says(16, "the mean LEVEL of its OLD ones (SEEN) less that of its NEW ones, times 1000 by that of the OLD; NOT: not both.", SOME + """
            ran(0, 11, 1000) 0
            person(0) VOID
            ran(0, 20, 10) 1
            person(0) VOID
            ran(0, 32, 900) 2
            person(0) 100
            mend(0, 1, -1) 0
            person(0) VOID
            mend(0, 1, 1) -1
            person(0) VOID
            """, SOME + """
            # each is cut: 1000 of 1000 and 1001, 900 of 900 and 901
            ran(0, 11, 1000) 0
            ran(0, 21, 1001) 1
            ran(0, 32, 900) 2
            ran(0, 42, 901) 3
            ran(100, 11, 10) 4
            person(0) 100
            """, SOME + """
            # toward 0; over courses by LEVEL
            course(2000) 1
            ran(0, 11, 2000) 0
            ran(1, 22, 4006) 1
            person(0) -1
            mend(1, 0, 4002) 4006
            person(0) 0
            mend(1, 0, 3994) 4002
            person(0) 1
            """);
    }

    // GAINS 100, 0, -50, none, 100, 1, -1; SEX 0, 1, 0, 1, 1, 1, 0.
    private static final String SEVEN = """
        runner(1000, 50000) 0
        runner(1000, 50001) 1
        runner(1000, 50000) 2
        runner(1000, 50001) 3..5
        runner(1000, 50000) 6
        course(1000) 0
        shoe(40, 30, 0) 1
        ran(0, 11, 1000) 0
        ran(100, 11, 1000) 1
        ran(200, 11, 1000) 2
        ran(300, 11, 1000) 3
        ran(400, 11, 1000) 4
        ran(500, 11, 1000) 5
        ran(600, 11, 1000) 6
        ran(0, 22, 900) 7
        ran(100, 22, 1000) 8
        ran(200, 22, 1050) 9
        ran(400, 22, 900) 10
        ran(500, 22, 999) 11
        ran(600, 22, 1001) 12
        """;

    private static void shares() {
        s.says(17, "how many have v or more (what 0), 0 or less (1), all that have one (2).", SEVEN + """
            shares(2, 0, -1) BAD
            shares(2, 0, 3) BAD
            shares(2, 0, MIN) BAD
            shares(2, 0, MAX) BAD
            shares(2, 101, 0) 0
            shares(2, 100, 0) 2
            shares(2, 2, 0) 2
            shares(2, 1, 0) 3
            shares(2, 0, 0) 4
            shares(2, -1, 0) 5
            shares(2, -49, 0) 5
            shares(2, -50, 0) 6
            shares(2, MIN, 0) 6
            shares(2, -2000000000, 0) 6
            shares(2, MAX, 0) 0
            shares(2, MAX, 1) 3
            shares(2, MIN, 1) 3
            shares(2, MAX, 2) 6
            shares(2, MIN, 2) 6
            mend(12, 0, 1000) 1001
            shares(2, 0, 1) 3
            mend(12, 0, 999) 1000
            shares(2, 0, 1) 2
            """);
        s.says(17, "SHARES of a SEX (0 .. 2) by v", SEVEN + """
            shares(-1, 0, 2) BAD
            shares(0, 0, 2) 3
            shares(1, 0, 2) 3
            shares(2, 0, 2) 6
            shares(3, 0, 2) BAD
            shares(MIN, 0, 2) BAD
            shares(MAX, 0, 2) BAD
            shares(0, 1, 0) 1
            shares(1, 1, 0) 2
            shares(0, 0, 1) 2
            shares(1, 0, 1) 1
            """);
        s.says(17, "SHARES: of RUNNERS that have one how many of a SEX (2: both) have v or more; NONE: how many have 0 or less.", """
            shares(2, 0, 0) 0
            shares(2, 0, 1) 0
            shares(2, 0, 2) 0
            shares(3, 0, 0) BAD
            new
            """ + SOME + """
            shares(2, MIN, 0) 0
            shares(2, 0, 1) 0
            shares(2, 0, 2) 0
            ran(0, 11, 1000) 0
            shares(2, MIN, 0) 0
            shares(2, 0, 1) 0
            ran(0, 22, 1000) 1
            shares(2, MIN, 0) 1
            shares(2, 0, 1) 1
            shares(2, 0, 2) 1
            """);
    }

    private static void led() {
        s.says(18, "LED: which RUNNER has the greatest (of like ones the least).", SEVEN + """
            led() 0
            mend(7, 0, 901) 900
            led() 4
            mend(10, 0, 901) 900
            led() 0
            mend(7, 1, -1) 1
            mend(10, 1, -1) 1
            led() 5
            mend(11, 1, -1) 1
            led() 1
            mend(8, 1, -1) 1
            led() 6
            mend(12, 1, -1) 1
            # all that has one has less than 0
            led() 2
            mend(9, 1, -1) 1
            led() NOT
            """, """
            # the least that can be had is one
            runner(1000, 50000) 0
            course(500) 0
            course(2000) 1
            shoe(40, 30, 0) 1
            ran(1, 1, 10) 0
            ran(0, 2, 29999) 1
            person(0) -11998600
            led() 0
            """);
        s.says(18, "LED. NOT.", """
            led() NOT
            runner(1000, 50000) 0..19
            led() NOT
            course(1000) 0
            shoe(40, 30, 0) 1
            ran(1900, 1, 1000) 0
            led() NOT
            ran(1900, 2, 1000) 1
            led() 19
            """);
    }

    private static void point() {
        s.says(19, "hundredths of breath (rising, 0 .. 99) and thousandths of time (0 .. 99)", """
            point(-1, 0) BAD
            point(100, 0) BAD
            point(MIN, 0) BAD
            point(MAX, 0) BAD
            point(0, -1) BAD
            point(0, 100) BAD
            point(0, MIN) BAD
            point(0, MAX) BAD
            count(6) 0
            point(0, 99) 1
            point(99, 0) 2
            belt(-1, 0) 99
            belt(-1, 99) 0
            """);
        s.says(19, "BAD (it does not rise)", """
            point(50, 1) 1
            point(50, 2) BAD
            point(49, 2) BAD
            point(0, 2) BAD
            count(6) 1
            point(51, 0) 2
            point(51, 5) BAD
            point(50, 5) BAD
            point(99, 5) 3
            point(99, 6) BAD
            belt(-1, 50) 1
            belt(-1, 51) 0
            belt(-1, 99) 5
            """);
        s.says(19, "A point of the BELT: how many. BAD (it does not rise), FULL: 6.", """
            point(0, 1) 1
            point(1, 1) 2
            point(2, 1) 3
            point(3, 1) 4
            point(4, 1) 5
            point(5, 7) 6
            point(6, 9) FULL
            point(99, 9) FULL
            point(5, 9) BAD
            point(0, 9) BAD
            point(100, 9) BAD
            point(6, 100) BAD
            point(6, -1) BAD
            count(6) 6
            belt(-1, 99) 7
            """);
    }

    private static void belt() {
        s.says(20, "BAD; STATE: no points.", """
            belt(-1, 0) STATE
            belt(-1, 99) STATE
            belt(-1, -1) BAD
            belt(-1, 100) BAD
            belt(0, 0) BAD
            belt(-2, 0) BAD
            runner(1000, 50000) 0
            belt(0, 0) STATE
            belt(1, 0) BAD
            belt(0, 100) BAD
            point(0, 50) 1
            belt(-1, 0) 50
            belt(0, 0) 50
            """);
        s.says(20, "What so many hundredths (0 .. 99) give (runner -1), MINUTES of a RUNNER (tenths).", """
            runner(1000, 50000) 0..19
            point(0, 10) 1
            belt(-1, -1) BAD
            belt(-1, 0) 10
            belt(-1, 99) 10
            belt(-1, 100) BAD
            belt(-1, MIN) BAD
            belt(-1, MAX) BAD
            belt(-2, 0) BAD
            belt(19, 0) 10
            belt(20, 0) BAD
            belt(MIN, 0) BAD
            belt(MAX, 0) BAD
            """);
        s.says(20, "between them, at k of n, (a (n less k) and b k) by n, cut", """
            point(10, 7) 1
            point(20, 40) 2
            point(23, 39) 3
            point(24, 99) 4
            point(99, 0) 5
            belt(-1, 10) 7
            belt(-1, 11) 10
            belt(-1, 15) 23
            belt(-1, 19) 36
            belt(-1, 20) 40
            belt(-1, 21) 39
            belt(-1, 22) 39
            belt(-1, 23) 39
            belt(-1, 24) 99
            belt(-1, 25) 97
            belt(-1, 98) 1
            belt(-1, 99) 0
            """);
        s.says(20, "ahead of and behind them as the end ones", """
            point(40, 7) 1
            belt(-1, 0) 7
            belt(-1, 39) 7
            belt(-1, 40) 7
            belt(-1, 41) 7
            belt(-1, 99) 7
            point(60, 90) 2
            belt(-1, 0) 7
            belt(-1, 39) 7
            belt(-1, 60) 90
            belt(-1, 61) 90
            belt(-1, 99) 90
            """);
        s.says(20, "its FORM times that by 1000 (cut)", """
            # FORM, not FORM THEN
            runner(600, 100000) 0
            runner(9999, 0) 1
            runner(1001, 50000) 2
            point(0, 1) 1
            point(1, 99) 2
            point(2, 0) 3
            belt(0, 0) 0
            belt(0, 1) 59
            belt(1, 1) 989
            belt(2, 0) 1
            belt(2, 1) 99
            belt(2, 2) 0
            """);
    }

    private static final String RACED = """
        runner(1000, 50000) 0
        course(1000) 0..2
        shoe(40, 50, 0) 1
        shoe(30, 10, 0) 2
        ran(0, 31, 980) 0
        ran(0, 11, 1000) 1
        ran(0, 10, 990) 2
        ran(0, 12, 985) 3
        ran(0, 22, 985) 4
        ran(0, 33, 970) 5
        ran(0, 30, 970) 6
        ran(0, 42, 900) 7
        ran(1, 1, 10) 8
        """;

    private static void records() {
        s.says(21, "RUNS that were quicker than all ahead (by YEAR, of like YEARS by TIME, then number; SEEN or not): how many; the i-th RUN.", RACED + """
            # year 1: 985 ahead of 990 and 1000; year 2: no quicker; year 3: the first of two; year 4
            records(0, 99, -1) 3
            records(0, 99, 0) 3
            records(0, 99, 1) 5
            records(0, 99, 2) 7
            # unseen, and quicker
            mend(6, 0, 969) 970
            records(0, 99, 1) 6
            # as quick as the one ahead is no record
            mend(7, 0, 969) 900
            records(0, 99, -1) 2
            mend(7, 0, 968) 969
            records(0, 99, -1) 3
            """, """
            # the slowest that there is, and a tenth less
            runner(1000, 50000) 0
            course(1000) 0
            ran(0, 1, 29999) 0
            records(0, 99, -1) 1
            records(0, 99, 0) 0
            ran(0, 991, 29999) 1
            records(0, 99, -1) 1
            mend(1, 0, 29998) 29999
            records(0, 99, 1) 1
            ran(0, 1, 10) 2
            records(0, 99, -1) 1
            records(0, 99, 0) 2
            """, """
            # of many RUNNERS: by YEAR, whoever it was
            runner(1000, 50000) 0..2
            course(1000) 0
            ran(0, 21, 990) 0
            ran(200, 11, 1000) 1
            ran(100, 31, 985) 2
            ran(200, 21, 989) 3
            ran(0, 31, 985) 4
            ran(100, 1, 1100) 5
            records(0, 99, -1) 4
            records(0, 99, 0) 5
            records(0, 99, 1) 1
            records(0, 99, 2) 3
            records(0, 99, 3) 2
            """);
        s.says(21, "RECORDS of a COURSE by a RULE of THICK (99: none): how many (i -1), the i-th RUN. BAD (also none such).", """
            records(0, 99, -1) BAD
            records(-1, 99, -1) BAD
            new
            """ + RACED + """
            records(-1, 99, -1) BAD
            records(0, 99, -2) BAD
            records(0, 99, 3) BAD
            records(0, 99, MIN) BAD
            records(0, 99, MAX) BAD
            records(1, 99, -1) 1
            records(1, 99, 0) 8
            records(1, 99, 1) BAD
            records(2, 99, -1) 0
            records(2, 99, 0) BAD
            records(3, 99, -1) BAD
            records(MIN, 99, -1) BAD
            records(MAX, 99, -1) BAD
            records(0, -1, -1) BAD
            records(0, 0, -1) 2
            records(0, 99, -1) 3
            records(0, 100, -1) BAD
            records(0, MIN, -1) BAD
            records(0, MAX, -1) BAD
            new
            runner(1000, 50000) 0
            course(1000) 0..4
            ran(4, 1, 1000) 0
            records(4, 99, 0) 0
            records(5, 99, -1) BAD
            """);
        s.says(21, "RECORDS of a COURSE without them.", RACED + """
            # without what is thicker than 39: years 1 (990), 3; than 29: UNSEEN 6 is one
            records(0, 40, 0) 3
            records(0, 39, -1) 2
            records(0, 39, 0) 2
            records(0, 39, 1) 5
            records(0, 30, 1) 5
            records(0, 29, -1) 2
            records(0, 29, 1) 6
            records(0, 20, -1) 2
            records(0, 20, 1) 6
            records(1, 20, -1) 1
            records(1, 19, -1) 0
            records(1, 19, 0) BAD
            records(0, 0, 0) 2
            records(0, 0, 1) 6
            """, """
            # of a shoe that is 99 thick none falls by 99
            runner(1000, 50000) 0
            course(1000) 0
            shoe(99, 0, 0) 1
            ran(0, 2, 1000) 0
            records(0, 98, -1) 0
            records(0, 99, -1) 1
            """);
    }

    private static void best() {
        s.says(22, "BEST by that on a COURSE (of like ones the first).", RACED + """
            # 900 in a shoe of 50 are 947; 970 unseen are 970
            best(0, 50, 0) 7
            mend(7, 0, 922) 900
            best(0, 50, 0) 6
            mend(7, 0, 921) 922
            best(0, 50, 0) 7
            mend(0, 0, 969) 980
            # of like ones (969) the first
            best(0, 50, 0) 0
            mend(0, 0, 970) 969
            best(0, 50, 0) 7
            best(1, 50, 0) 8
            """);
        s.says(22, "BEST by OLD MINUTES on a COURSE: the RUN (what 0), AGE in a YEAR (1). BAD; NOT.", """
            best(0, 0, 0) BAD
            new
            """ + RACED + """
            best(-1, 50, 0) BAD
            best(0, -1, 0) BAD
            best(0, 0, 0) 7
            best(0, 99, 0) 7
            best(0, 100, 0) BAD
            best(0, 50, -1) BAD
            best(0, 50, 1) 46
            best(0, 50, 2) BAD
            best(2, 50, 0) NOT
            best(2, 50, 1) NOT
            best(3, 50, 0) BAD
            # BAD comes ahead of NOT
            best(2, 100, 0) BAD
            best(2, -1, 1) BAD
            best(2, 50, 2) BAD
            best(2, 50, -1) BAD
            best(MIN, 50, 0) BAD
            best(MAX, 50, 0) BAD
            best(0, MIN, 0) BAD
            best(0, MAX, 0) BAD
            best(0, 50, MIN) BAD
            best(0, 50, MAX) BAD
            """);
        s.says(22, "AGE of the RECORD: YEARS from BEST by that to a YEAR told (YEAR less that of the RUN).", RACED + """
            best(0, 99, 1) 95
            best(0, 5, 1) 1
            best(0, 4, 1) 0
            best(1, 0, 1) 0
            best(1, 99, 1) 99
            # a YEAR ahead of it, too
            best(0, 3, 1) -1
            best(0, 0, 1) -4
            """);
        s.says(22, "OLD MINUTES: the TIME of a RUN as it would be without", """
            runner(1000, 50000) 0
            course(1000) 0
            shoe(40, -99, 0) 1
            shoe(40, 99, 0) 2
            ran(0, 1, 1000) 0
            ran(0, 2, 1098) 1
            best(0, 0, 0) 1
            mend(1, 0, 1099) 1098
            best(0, 0, 0) 0
            ran(0, 3, 901) 2
            best(0, 0, 0) 0
            mend(2, 0, 900) 901
            best(0, 0, 0) 2
            """);
    }

    private static void rule() {
        s.says(23, "A RULE of THICK: RUNS in thicker SHOES fall away: how many", RACED + """
            # 20: runs 0, 1, 8; 30: run 5; 40: runs 3, 4, 7; unseen: 2, 6
            rule(0) 7
            rule(19) 7
            rule(20) 4
            rule(29) 4
            rule(30) 3
            rule(39) 3
            rule(40) 0
            rule(99) 0
            mend(2, 1, 1) -1
            rule(39) 4
            """);
        s.says(23, "A RULE of THICK: how many RUNS fall away. BAD.", """
            rule(-1) BAD
            rule(0) 0
            rule(99) 0
            rule(100) BAD
            rule(MIN) BAD
            rule(MAX) BAD
            new
            runner(1000, 50000) 0
            course(1000) 0
            shoe(1, 0, 0) 1
            shoe(99, 0, 0) 2
            ran(0, 2, 1000) 0
            rule(0) 1
            rule(1) 0
            ran(0, 3, 1000) 1..119
            rule(0) 120
            rule(1) 119
            rule(98) 119
            rule(99) 0
            """);
    }

    private static void dead() {
        s.says(24, "GIVES times (10 less k) / 10 (cut), from k 10 on 0", """
            shoe(40, 33, 0) 1
            shoe(40, -33, 0) 2
            shoe(40, 99, 0) 3
            dead(1, 0) 33
            dead(1, 1) 29
            dead(1, 2) 26
            dead(1, 5) 16
            dead(1, 8) 6
            dead(1, 9) 3
            dead(1, 10) 0
            dead(1, 11) 0
            dead(2, 0) -33
            dead(2, 1) -29
            dead(2, 9) -3
            dead(2, 10) 0
            dead(2, 11) 0
            dead(3, 9) 9
            dead(3, 99) 0
            dead(0, 0) 0
            mend(1, 2, 9) 33
            dead(1, 9) 0
            """);
        s.says(24, "DEAD: what a SHOE GIVES at the k-th RUN (0 .. 99). VOID: BAD.", """
            dead(-1, 0) VOID
            dead(0, 0) 0
            dead(1, 0) VOID
            shoe(40, 10, 0) 1..5
            dead(5, 0) 10
            dead(6, 0) VOID
            dead(5, -1) VOID
            dead(5, 99) 0
            dead(5, 100) VOID
            dead(5, MIN) VOID
            dead(5, MAX) VOID
            dead(MIN, 0) VOID
            dead(MAX, 0) VOID
            """);
    }

    /** PAIRS OLD both, one of each runner, that gained so much; shoe 1 gives so much. */
    private static String gained(int gives, int... all) {
        StringBuilder run = new StringBuilder("course(1000) 0\nshoe(40, " + gives + ", 0) 1\n");
        for (int k = 0; k < all.length; k++) {
            run.append("runner(1000, 50000) ").append(k).append('\n');
            run.append("ran(").append(100 * k).append(", 1, 1000)\n");
            run.append("ran(").append(100 * k).append(", 11, ").append(1000 - all[k]).append(")\n");
        }
        return run.toString();
    }

    private static void needed() {
        String sentence = "how many RUNNERS (1 .. 999) so that GIVES of a SHOE squared times n is more than 4 times the SPREAD";
        s.says(25, sentence, gained(1, 0) + "needed(1) 1\n", gained(-99, 0) + "needed(1) 1\n",
            // SPREAD 100: 16 times 25 is as much, and not more.
            gained(4, 0, 20) + "needed(1) 26\n", gained(-4, 0, 20) + "needed(1) 26\n", gained(3, 0, 20) + "needed(1) 45\n",
            gained(20, 0, 20) + "needed(1) 2\n", gained(21, 0, 20) + "needed(1) 1\n",
            // SPREAD 998, 4 times 998 as much; SPREAD 2248: 9 times 999 is less.
            gained(2, 0, 2, 68) + "needed(1) 999\n", gained(-2, 0, 2, 68) + "needed(1) 999\n", gained(3, 0, 5, 103) + "needed(1) NOT\n");
        s.says(25, "the SPREAD: the mean square (cut) of GAINED of PAIRS OLD both less their mean",
            // Of -50, 0, 0 the mean is -16 (cut), the squares 1156, 256, 256: 556.
            gained(2, -50, 0, 0) + "needed(1) 557\n", gained(2, 50, 0, 0) + "needed(1) 557\n",
            // Of 0 and 3 the mean is 1, the squares 1 and 4: 2.
            gained(1, 0, 3) + "needed(1) 9\n", gained(1, -7) + "needed(1) 1\n",
            // Another sort's PAIRS do not count, nor do those with one unseen.
            gained(4, 0, 20) + """
            ran(0, 22, 10)
            needed(1) 26
            ran(0, 32, 500)
            needed(1) 26
            ran(0, 41, 29999)
            needed(1) 26
            ran(0, 50, 10)
            ran(0, 61, 10)
            needed(1) 26
            """);
        s.says(25, "GIVES of a SHOE squared", gained(4, 0, 20) + """
            needed(1) 26
            mend(1, 2, 5) 4
            needed(1) 17
            shoe(40, -4, 0) 2
            needed(2) 26
            """);
    }

    private static void neededOrNot() {
        s.says(25, "NOT: no such PAIRS, or GIVES is 0, or 999 are too few.", """
            needed(0) NOT
            shoe(40, 30, 0) 1
            needed(1) NOT
            new
            """ + gained(30, 0) + """
            needed(1) 1
            needed(0) NOT
            shoe(40, 0, 0) 2
            needed(2) NOT
            mend(1, 2, 0) 30
            needed(1) NOT
            mend(1, 2, 1) 0
            needed(1) 1
            mend(0, 1, 1) 0
            needed(1) NOT
            mend(0, 1, -1) 1
            needed(1) NOT
            """, gained(1, 0, 33) + "needed(1) NOT\n", gained(2, 0, 2, 69) + "needed(1) NOT\n");
        s.says(25, "999 are too few", """
            # the widest of all: 999 and -11998600
            runner(1000, 50000) 0
            course(500) 0
            course(2000) 1
            shoe(40, 99, 0) 1
            ran(0, 1, 29999) 0
            ran(1, 11, 10) 1
            needed(1) 1
            ran(0, 21, 29999) 2
            needed(1) NOT
            """);
        s.says(25, "NEEDED for a SHOE. BAD; NOT.", """
            needed(-1) BAD
            needed(0) NOT
            needed(1) BAD
            shoe(40, 30, 0) 1..5
            needed(5) NOT
            needed(6) BAD
            needed(MIN) BAD
            needed(MAX) BAD
            """);
    }

    private static final String ONE = """
        runner(1000, 50000) 0
        course(1000) 0
        shoe(40, 30, 0) 1
        ran(0, 1, 1000) 0
        """;

    private static String mends(int first, int last) {
        StringBuilder run = new StringBuilder();
        for (int v = first; v <= last; v++) {
            run.append("mend(0, 0, ").append(v).append(") ").append(v - 1).append('\n');
        }
        return run.toString();
    }

    private static void undo() {
        s.says(26, "UNDONE: how many may still be. STATE: none.", """
            undo() STATE
            redo() STATE
            count(7) 0
            new
            """ + ONE + """
            undo() STATE
            mend(0, 0, 1001) 1000
            mend(0, 1, -1) 0
            mend(1, 2, 31) 30
            count(7) 3
            undo() 2
            dead(1, 0) 30
            of(0, 4) -1
            of(0, 3) 1001
            undo() 1
            of(0, 4) 0
            of(0, 3) 1001
            undo() 0
            of(0, 3) 1000
            undo() STATE
            count(7) 0
            """);
        s.says(26, "CHANGES (TIMES, SHOES of RUNS, GIVES that become another number)", ONE + """
            # what becomes the same number is none, nor is what is refused
            mend(0, 0, 1000) 1000
            mend(0, 1, 0) 0
            mend(1, 2, 30) 30
            mend(0, 0, 9) VOID
            mend(0, 1, 2) VOID
            mend(1, 2, 100) VOID
            mend(0, 2, 5) VOID
            count(7) 0
            undo() STATE
            # nor what comes new
            ran(0, 2, 900) 1
            eyes(50) 100
            shoe(40, 0, 0) 2
            undo() STATE
            mend(0, 0, 1001) 1000
            count(7) 1
            mend(0, 1, 1) 0
            count(7) 2
            mend(1, 2, 29) 30
            count(7) 3
            """);
        s.says(26, "can be UNDONE, the latest first", ONE + """
            mend(0, 0, 1001) 1000
            mend(0, 0, 1002) 1001
            mend(0, 1, 1) 0
            mend(0, 1, -1) 1
            mend(1, 2, -30) 30
            undo() 4
            dead(1, 0) 30
            of(0, 4) -1
            undo() 3
            of(0, 4) 1
            undo() 2
            of(0, 4) 0
            undo() 1
            of(0, 3) 1001
            # once more from there
            mend(0, 0, 1005) 1001
            count(7) 2
            undo() 1
            of(0, 3) 1001
            undo() 0
            of(0, 3) 1000
            """);
        s.says(26, "40 at most are kept.", ONE + mends(1001, 1040) + """
            count(7) 40
            undo() 39..0
            undo() STATE
            of(0, 3) 1000
            """, ONE + mends(1001, 1041) + """
            count(7) 40
            undo() 39..0
            undo() STATE
            of(0, 3) 1001
            """, ONE + "mend(0, 1, 1) 0\nmend(1, 2, 31) 30\n" + mends(1001, 1039) + """
            # the first of 41, of another sort, is kept no more
            count(7) 40
            undo() 39..0
            undo() STATE
            of(0, 3) 1000
            dead(1, 0) 30
            of(0, 4) 1
            """, ONE + mends(1001, 1100) + """
            count(7) 40
            undo() 39..30
            mend(0, 0, 2000) 1090
            count(7) 31
            undo() 30..0
            undo() STATE
            of(0, 3) 1060
            """);
    }

    private static void redo() {
        s.says(27, "DONE AGAIN: how many may still be. STATE: none.", """
            redo() STATE
            new
            """ + ONE + """
            mend(0, 0, 1001) 1000
            redo() STATE
            mend(0, 1, -1) 0
            mend(1, 2, 31) 30
            undo() 2..0
            redo() 2
            of(0, 3) 1001
            of(0, 4) 0
            count(7) 1
            redo() 1
            of(0, 4) -1
            dead(1, 0) 30
            count(7) 2
            redo() 0
            dead(1, 0) 31
            count(7) 3
            redo() STATE
            # and undone again
            undo() 2
            redo() 0
            redo() STATE
            """);
        s.says(27, "DONE AGAIN (as long as no other came behind)", ONE + """
            mend(0, 0, 1001) 1000
            mend(0, 0, 1002) 1001
            undo() 1
            mend(0, 0, 1003) 1001
            redo() STATE
            undo() 1
            redo() 0
            of(0, 3) 1003
            """, ONE + """
            # one of another sort, too
            mend(0, 0, 1001) 1000
            undo() 0
            mend(1, 2, 31) 30
            redo() STATE
            of(0, 3) 1000
            """, ONE + """
            # what is no change does not come behind
            mend(0, 0, 1001) 1000
            undo() 0
            mend(0, 0, 1000) 1000
            mend(0, 0, 9) VOID
            mend(0, 2, 9) VOID
            ran(0, 1, 1000) 1
            shoe(40, 5, 0) 2
            eyes(5) 100
            undo() STATE
            redo() 0
            of(0, 3) 1001
            """);
        s.says(27, "40 at most are kept.", ONE + mends(1001, 1050) + """
            redo() STATE
            undo() 39..0
            of(0, 3) 1010
            redo() 39
            of(0, 3) 1011
            redo() 38
            of(0, 3) 1012
            redo() 37..0
            redo() STATE
            of(0, 3) 1050
            count(7) 40
            # one more is the 41st: the first of those is kept no more
            mend(0, 0, 1051) 1050
            undo() 39..0
            of(0, 3) 1011
            """);
    }
}
