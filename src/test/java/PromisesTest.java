/** Each promise by itself: ordinary calls, the edges that the document names, and wrong calls. */
public final class PromisesTest {
    private static final int BAD = -1, NOT = -2, FULL = -3, STATE = -5, VOID = -2000000000;
    private static final int MIN = Integer.MIN_VALUE, MAX = Integer.MAX_VALUE;
    private static int wrong = 0;
    private static int promise = 0;
    private static int step = 0;

    private static void due(long got, long want) {
        step++;
        if (got != want) {
            wrong++;
            System.out.println("promise " + promise + ", step " + step + ": answered " + got + ", due is " + want);
        }
    }

    private static ThreeHundred fresh(int number) {
        promise = number;
        step = 0;
        return new ThreeHundred();
    }

    /** The text goes to the tape, a byte a call; then law(). */
    private static int told(ThreeHundred x, String text) {
        for (int i = 0; i < text.length(); i++) {
            x.feed(1, text.charAt(i));
        }
        return x.law();
    }

    public static void main(String[] args) {
        newObject();
        runner();
        shoe();
        course();
        ran();
        runs();
        of();
        mend();
        feed();
        law();
        lawFaults();
        lawValues();
        eyes();
        race();
        changed();
        gain();
        unseen();
        person();
        shares();
        led();
        point();
        belt();
        records();
        best();
        rule();
        dead();
        needed();
        undo();
        redo();
        body();
        act();
        trace();
        keep();
        row();
        put();
        element();
        shift();
        taken();
        count();
        System.out.println(wrong == 0 ? "all promises are kept" : wrong + " answers are not as promised");
        if (wrong != 0) {
            System.exit(1);
        }
    }

    private static void newObject() {
        ThreeHundred x = fresh(1);
        int[] constants = {ThreeHundred.BAD, ThreeHundred.NOT, ThreeHundred.FULL, ThreeHundred.BIG, ThreeHundred.STATE, ThreeHundred.VOID};
        int[] told = {-1, -2, -3, -4, -5, -2000000000};
        for (int k = 0; k < 6; k++) {
            due(constants[k], told[k]);
        }
        int[] many = {0, 1, 0, 0, 0, 0, 0, 0, 0, 0};
        for (int what = 0; what < 10; what++) {
            due(x.count(what), many[what]);
        }
        due(x.dead(0, 0), 0);
        due(x.eyes(100), 100);
        for (int shelf = 0; shelf < 6; shelf++) {
            due(x.taken(shelf, 0), -11);
        }
        // The old shoe is 20 thick, and no rule of 20 takes it away.
        x.runner(1000, 50000);
        x.course(1000);
        x.ran(0, 1, 1000);
        due(x.rule(19), 1);
        due(x.rule(20), 0);
        due(new ThreeHundred().count(0), 0);
    }

    private static void runner() {
        ThreeHundred x = fresh(2);
        due(x.runner(599, 50000), BAD);
        due(x.runner(10000, 50000), BAD);
        due(x.runner(1000, -1), BAD);
        due(x.runner(1000, 101000), BAD);
        due(x.runner(1000, 50002), BAD);
        due(x.runner(1000, 50009), BAD);
        due(x.runner(MIN, MIN), BAD);
        due(x.runner(MAX, MAX), BAD);
        due(x.runner(600, 0), 0);
        due(x.runner(9999, 100991), 1);
        for (int k = 2; k < 20; k++) {
            due(x.runner(1000 + k, 50000), k);
        }
        due(x.runner(1000, 50000), FULL);
        due(x.runner(599, 50000), BAD);
        due(x.count(0), 20);
        // DRIFT, TRAINED and SEX, as a law and the belt see them.
        x = fresh(2);
        x.runner(2000, 53421);
        x.course(1000);
        x.point(0, 99);
        due(told(x, "f=203&t=42&s=1"), 0);
        due(x.shoe(30, 10, 0), 1);
        due(x.race(0, 101, 0, 5), 1);
        due(x.of(0, 4), 1);
        due(x.belt(0, 0), 198);
        due(x.shares(1, 0, 2), 0);
        x.ran(0, 101, 1000);
        due(x.shares(1, 0, 2), 1);
        due(x.shares(0, 0, 2), 0);
        x = fresh(2);
        x.runner(2000, 100991);
        x.runner(9000, 10);
        x.course(1000);
        told(x, "(f=695&t=99&s=1)|(f=405&t=1&s=0)");
        x.shoe(30, 10, 0);
        due(x.race(0, 991, 0, 0), 2);
        due(x.of(0, 4), 1);
        due(x.of(1, 4), 1);
    }

    private static void shoe() {
        ThreeHundred x = fresh(3);
        due(x.shoe(0, 0, 0), BAD);
        due(x.shoe(100, 0, 0), BAD);
        due(x.shoe(1, -100, 0), BAD);
        due(x.shoe(1, 100, 0), BAD);
        due(x.shoe(1, 0, -1), BAD);
        due(x.shoe(1, 0, 100), BAD);
        due(x.count(1), 1);
        due(x.shoe(1, -99, 0), 1);
        due(x.shoe(99, 99, 99), 2);
        due(x.dead(1, 0), -99);
        due(x.dead(2, 0), 99);
        due(x.shoe(40, 30, 5), 3);
        due(x.shoe(40, 30, 5), 4);
        due(x.shoe(40, 30, 5), 5);
        due(x.shoe(40, 30, 5), FULL);
        due(x.shoe(0, 30, 5), BAD);
        due(x.count(1), 6);
    }

    private static void course() {
        ThreeHundred x = fresh(4);
        due(x.course(499), BAD);
        due(x.course(2001), BAD);
        due(x.course(MIN), BAD);
        due(x.course(MAX), BAD);
        due(x.course(500), 0);
        due(x.course(2000), 1);
        for (int k = 2; k < 5; k++) {
            due(x.course(1000), k);
        }
        due(x.course(1000), FULL);
        due(x.course(1), BAD);
        due(x.count(2), 5);
        x.runner(1000, 50000);
        x.ran(0, 1, 1001);
        x.ran(1, 1, 1001);
        due(x.of(0, 5), 2002);
        due(x.of(1, 5), 500);
    }

    private static void ran() {
        ThreeHundred x = fresh(5);
        due(x.ran(0, 0, 1000), BAD);
        x.runner(1000, 50000);
        due(x.ran(0, 0, 1000), BAD);
        x.course(1000);
        due(x.ran(0, 0, 9), BAD);
        due(x.ran(0, 0, 30000), BAD);
        due(x.ran(-1, 0, 1000), BAD);
        due(x.ran(-100, 0, 1000), BAD);
        due(x.ran(1, 0, 1000), BAD);
        due(x.ran(100, 0, 1000), BAD);
        due(x.ran(0, -1, 1000), BAD);
        due(x.ran(0, -10, 1000), BAD);
        due(x.ran(0, 1000, 1000), BAD);
        due(x.ran(0, 2, 1000), BAD);
        due(x.ran(0, 9, 1000), BAD);
        due(x.ran(MIN, MIN, MIN), BAD);
        due(x.ran(MAX, MAX, MAX), BAD);
        due(x.count(3), 0);
        due(x.ran(0, 0, 10), 0);
        due(x.ran(0, 991, 29999), 1);
        // A shoe may be told of a year ahead of the one that it was made in.
        due(x.shoe(30, 10, 99), 1);
        due(x.ran(0, 2, 1000), 2);
        due(x.of(2, 2), 0);
        due(x.of(2, 4), 1);
        for (int k = 3; k < 120; k++) {
            due(x.ran(0, 1, 1000), k);
        }
        due(x.ran(0, 1, 1000), FULL);
        due(x.ran(0, 1, 9), BAD);
        due(x.count(3), 120);
    }

    private static void five(ThreeHundred x, int shelf, int i, int... of) {
        for (int k = 0; k < of.length; k++) {
            x.put(shelf, i + k, of[k]);
        }
    }

    private static void runs() {
        ThreeHundred x = fresh(6);
        x.runner(1000, 50000);
        x.runner(1100, 50000);
        x.course(1000);
        x.row(0, 2, 60);
        due(x.runs(-1, 0, 1), BAD);
        due(x.runs(6, 0, 1), BAD);
        due(x.runs(0, 0, 0), BAD);
        due(x.runs(0, 0, 13), BAD);
        due(x.runs(1, 0, 0), BAD);
        due(x.runs(1, 0, 12), 0);
        for (int sort = 0; sort < 5; sort++) {
            x.row(2, sort, 10);
            due(x.runs(2, 0, 1), sort == 2 ? 0 : -12);
        }
        x.body(0);
        x.keep(3, 0);
        due(x.runs(3, 0, 1), -12);
        due(x.runs(3, 0, 13), BAD);
        // Two are so, the third has a time too short.
        five(x, 0, 1, 0, 0, 5, 1000, -1, 1, 0, 6, 1001, 0, 0, 0, 7, 9, 0);
        due(x.runs(0, 1, 12), 2);
        due(x.count(3), 2);
        due(x.of(0, 4), -1);
        due(x.of(1, 0), 1);
        due(x.of(1, 2), 6);
        due(x.of(1, 3), 1001);
        due(x.of(1, 4), 0);
        due(x.runs(0, 6, 1), 1);
        due(x.runs(0, 1, 1), 1);
        due(x.runs(0, -1, 1), 0);
        due(x.runs(0, -5, 12), 0);
        due(x.runs(0, 60, 1), 0);
        due(x.runs(0, MAX, 12), 0);
        due(x.runs(0, MIN, 12), 0);
        // The row ends within a five.
        x.row(4, 2, 14);
        five(x, 4, 0, 0, 0, 1, 1000, 0, 0, 0, 2, 1000, 0, 0, 0, 3, 1000);
        due(x.runs(4, 0, 3), 2);
        due(x.runs(4, 10, 1), 0);
        // Not so: each of the five in turn.
        int[][] faulty = {{-1, 0, 1, 10, 0}, {2, 0, 1, 10, 0}, {0, -1, 1, 10, 0}, {0, 1, 1, 10, 0}, {0, 0, -1, 10, 0},
            {0, 0, 100, 10, 0}, {0, 0, 1, 9, 0}, {0, 0, 1, 30000, 0}, {0, 0, 1, 10, -2}, {0, 0, 1, 10, 1}, {0, 105, 1, 10, 0}};
        x.row(5, 2, 5);
        for (int[] one : faulty) {
            five(x, 5, 0, one);
            due(x.runs(5, 0, 1), 0);
        }
        five(x, 5, 0, 0, 0, 99, 29999, -1);
        due(x.runs(5, 0, 2), 1);
        // Full within the row.
        int many = x.count(3);
        while (many < 119) {
            many = x.ran(0, 1, 1000) + 1;
        }
        x.row(4, 2, 10);
        five(x, 4, 0, 0, 0, 1, 1000, 0, 0, 0, 2, 1000, 0);
        due(x.runs(4, 0, 2), 1);
        due(x.runs(4, 0, 2), 0);
        due(x.count(3), 120);
    }

    private static void of() {
        ThreeHundred x = fresh(7);
        x.runner(1000, 50000);
        x.runner(1000, 50000);
        x.course(1000);
        x.course(700);
        x.shoe(40, 30, 0);
        x.shoe(40, -30, 0);
        x.ran(101, 72, 1234);
        int[] first = {1, 1, 7, 1234, 1, 1762, 1272, 0};
        for (int what = 0; what < 8; what++) {
            due(x.of(0, what), first[what]);
        }
        due(x.of(0, -1), VOID);
        due(x.of(0, 8), VOID);
        due(x.of(-1, 0), VOID);
        due(x.of(1, 0), VOID);
        due(x.of(MAX, 0), VOID);
        due(x.of(MIN, 0), VOID);
        x.ran(101, 70, 1234);
        due(x.of(1, 4), -1);
        due(x.of(1, 6), 1234);
        due(x.of(1, 7), -1);
        x.ran(101, 73, 1234);
        due(x.of(2, 6), 1198);
        // The which: by year, then number, of the runner's in that shoe alone.
        x.ran(100, 62, 1000);
        x.ran(100, 82, 1000);
        x.ran(100, 72, 1000);
        x.ran(0, 62, 1000);
        due(x.of(3, 7), 0);
        due(x.of(0, 7), 1);
        due(x.of(5, 7), 2);
        due(x.of(4, 7), 3);
        due(x.of(2, 7), 0);
        due(x.of(6, 7), 0);
        x.ran(0, 72, 1000);
        due(x.of(7, 7), 1);
        x.mend(0, 1, 2);
        due(x.of(5, 7), 1);
        due(x.of(0, 7), 0);
        due(x.of(2, 7), 1);
    }

    private static void mend() {
        ThreeHundred x = fresh(8);
        x.runner(1000, 50000);
        x.course(1000);
        x.shoe(40, 30, 0);
        x.ran(0, 2, 1000);
        due(x.mend(0, 0, 9), VOID);
        due(x.mend(0, 0, 30000), VOID);
        due(x.mend(1, 0, 1000), VOID);
        due(x.mend(-1, 0, 1000), VOID);
        due(x.mend(0, 1, -2), VOID);
        due(x.mend(0, 1, 2), VOID);
        due(x.mend(1, 1, 0), VOID);
        due(x.mend(0, 2, 10), VOID);
        due(x.mend(2, 2, 10), VOID);
        due(x.mend(1, 2, 100), VOID);
        due(x.mend(1, 2, -100), VOID);
        due(x.mend(0, 3, 10), VOID);
        due(x.mend(0, -1, 10), VOID);
        due(x.count(7), 0);
        due(x.mend(0, 0, 1000), 1000);
        due(x.count(7), 0);
        due(x.mend(0, 0, 10), 1000);
        due(x.mend(0, 0, 29999), 10);
        due(x.of(0, 3), 29999);
        due(x.mend(0, 1, -1), 1);
        due(x.mend(0, 1, 0), -1);
        due(x.of(0, 4), 0);
        due(x.mend(1, 2, 99), 30);
        due(x.mend(1, 2, -99), 99);
        due(x.dead(1, 0), -99);
        due(x.count(7), 6);
    }

    private static void feed() {
        ThreeHundred x = fresh(9);
        due(x.feed(0, 0), BAD);
        due(x.feed(5, 0), BAD);
        due(x.feed(-1, 0), BAD);
        due(x.feed(MAX, 0), BAD);
        due(x.feed(4, '1' | '2' << 8 | '3' << 16 | '4' << 24), 4);
        due(x.feed(1, '+' | 'x' << 8), 5);
        due(x.feed(2, 0x100 * 'f' + 't'), 7);
        // 1234+tf: what stands behind the t is no law.
        due(x.law(), -106);
        for (int k = 1; k <= 29; k++) {
            due(x.feed(4, -1), 4 * k);
        }
        due(x.feed(3, 0), 119);
        due(x.feed(2, 0), FULL);
        due(x.feed(4, 0), FULL);
        due(x.feed(MAX, 0), BAD);
        due(x.count(4), 119);
        due(x.feed(1, 0), 120);
        due(x.feed(1, 0), FULL);
        due(x.law(), -100);
        due(x.count(4), 0);
    }

    private static void law() {
        ThreeHundred x = fresh(10);
        due(x.law(), -100);
        due(told(x, "f<200"), 0);
        due(x.count(4), 0);
        due(x.count(5), 1);
        due(told(x, "f<"), -102);
        due(x.count(4), 0);
        due(x.count(5), 1);
        due(told(x, "((((((1))))))"), 1);
        due(told(x, "!!!---1"), 2);
        due(told(x, "z<9?1;t>5&!s?g;0"), 3);
        x.feed(2, 0x3131);
        due(x.law(), FULL);
        due(x.count(4), 2);
        due(x.count(5), 4);
        // The longest text.
        x = fresh(10);
        due(told(x, "1+".repeat(59) + "11"), 0);
        due(told(x, "1+".repeat(60)), -220);
        due(told(x, "1;".repeat(59) + "1?"), -220);
        due(told(x, "1;".repeat(59) + "1"), 1);
    }

    private static void lawFaults() {
        ThreeHundred x = fresh(10);
        Object[][] faulty = {
            {"", 0}, {"x", 0}, {"12345", 4}, {"1 ", 1}, {"f<t<s", 3}, {"f=t>s", 3}, {"(f<t)<s<t", 7}, {"1?", 2}, {"1?2?3", 3}, {"?1", 0},
            {";1", 0}, {"1;", 2}, {"1;;2", 2}, {"1?;2", 2}, {"(1;2)", 2}, {"(1?2)", 2}, {"(1", 2}, {"1)", 1}, {"()", 1}, {"(1))", 3},
            {"ff", 1}, {"f1", 1}, {"1f", 1}, {"f(", 1}, {"f!", 1}, {"+1", 0}, {"1+", 2}, {"1++1", 2}, {"1*/1", 2}, {"1--", 3}, {"!", 1},
            {"-", 1}, {"1|", 2}, {"1||1", 2}, {"1&&1", 2}, {"((((((((", 6}, {"(((((((1)))))))", 6}, {"!!!!!!!1", 6}, {"-------1", 6},
            {"!-(!-(!1))", 6}, {"((((((1+!1))))))", 8}, {"((((((1-1+-1))))))", 10}, {"1+\u00e9", 2}, {"\u00ff", 0}, {"a", 0}, {"F", 0},
            {"1\n", 1}, {"1:2", 1}, {"1,2", 1}, {"f<t;12345", 8}, {"((((((1", 7}, {"!(1", 3}, {"00000", 4}, {"1%", 2}, {"1/", 2}, {"1=", 2},
        };
        for (Object[] one : faulty) {
            due(told(x, (String) one[0]), -100 - (Integer) one[1]);
        }
        // What was open is shut behind its operand.
        x = fresh(10);
        due(told(x, "!!!!!!1+!!!!!!1*------1"), 0);
        due(told(x, "((((((1))))))-((((((1))))))"), 1);
        due(told(x, "!(!(!(1)+!(1))+!(!(1)))"), 2);
        due(told(x, "((((((1-1))))))"), 3);
    }

    /** Whether the runner wears the new shoe by that law in year 12, of three; its draw is 48. */
    private static int worn(String text) {
        ThreeHundred x = new ThreeHundred();
        x.runner(1209, 50371);
        x.runner(1100, 51000);
        x.runner(1400, 46000);
        x.shoe(37, 61, 12);
        x.course(1000);
        if (told(x, text) != 0) {
            return VOID;
        }
        x.race(0, 121, 0, 0);
        return x.of(0, 4);
    }

    private static void lawValues() {
        fresh(10);
        String[] so = {
            "1", "9999", "f=120", "t=37", "s=1", "y=12", "p=1", "n=3", "g=61", "k=37", "z=48", "!0", "-1", "!!2=1", "1|0", "0|2", "2&3",
            "1<2", "2>1", "2=2", "(1<2)=1", "7/2=3", "-7/2=-3", "-7%4=-3", "7%-4=3", "5/0=0", "5%0=0", "!(5/0)", "2+3*4=14", "(2+3)*4=20",
            "10-3-2=5", "100/10/2=5", "100/10*2=20", "7%4%2=1", "0=!1", "!f=0", "!f+1=1", "-f+f=0", "f--f=240", "f-!f=120", "1|0&0", "(2|3)=1",
            "(2&3)=1", "1<2+3", "1+2=3", "1=1&2=2", "0007=7", "0?0;1", "1?1;0", "0?1;1", "0?1;0?1;1", "1?1", "2?1;0",
            "1?((((((1))))))", "1?!!!!!!1", "(2=2)=1", "(2>1)=1", "(1<2)=1", "!!1|f", "9999*9999*22<0", "0-9999*9999*22>0", "-(9999*9999*22)>0",
            "(0-2*2*2*2*2*2*2*2*2*2*2*2*2*2*2*2*2*2*2*2*2*2*2*2*2*2*2*2*2*2*2)/-1<0", "1;0", "-1?-1", "z<49&z>47", "0|0|1", "1&1&1", "3>2?k",
        };
        for (String text : so) {
            due(worn(text), 1);
        }
        String[] notSo = {
            "0", "!1", "!9", "f=121", "1?0", "0?1", "0?1;0", "0?1;0?1", "1?0;1", "0;1", "2<2", "2>2", "1=2", "0|0", "0&1", "1&0", "5/0", "5%0",
            "1/2", "-1/2", "4%2", "0|1&0", "0|1=2", "1&1=0", "2-1-1", "0000", "p-1", "n-3", "s-1", "1-1?1;2-2", "1?0;1?1", "-0", "!(2|0)",
        };
        for (String text : notSo) {
            due(worn(text), 0);
        }
    }

    private static void eyes() {
        ThreeHundred x = fresh(11);
        due(x.eyes(-1), BAD);
        due(x.eyes(101), BAD);
        due(x.eyes(MIN), BAD);
        due(x.eyes(0), 100);
        due(x.eyes(100), 0);
        due(x.eyes(75), 100);
        due(x.eyes(200), BAD);
        due(x.eyes(75), 75);
        x.runner(1000, 50000);
        x.course(1000);
        told(x, "1");
        // What is drawn for the photograph of the first by seed 0 is 75.
        x.race(0, 0, 0, 0);
        due(x.of(0, 4), -1);
        x.eyes(76);
        x.race(0, 0, 0, 0);
        due(x.of(1, 4), 0);
    }

    private static ThreeHundred threeOnTheLine() {
        ThreeHundred x = new ThreeHundred();
        x.runner(1000, 50000);
        x.runner(2000, 50000);
        x.runner(3000, 50000);
        x.shoe(40, 50, 5);
        x.course(1000);
        x.course(1500);
        told(x, "z<50");
        told(x, "1");
        return x;
    }

    private static void race() {
        fresh(12);
        ThreeHundred x = threeOnTheLine();
        due(x.race(20, 51, 0, 0), BAD);
        due(x.race(2, 51, 0, 0), BAD);
        due(x.race(-1, 51, 0, 0), BAD);
        due(x.race(-10, 51, 0, 0), BAD);
        due(x.race(0, 52, 0, 0), BAD);
        due(x.race(0, 1000, 0, 0), BAD);
        due(x.race(0, -1, 0, 0), BAD);
        due(x.race(0, -10, 0, 0), BAD);
        due(x.race(0, 41, 0, 0), BAD);
        due(x.race(0, 51, 51, 0), BAD);
        due(x.race(0, 51, -51, 0), BAD);
        due(x.race(MIN, MIN, MIN, MIN), BAD);
        due(x.race(MAX, MAX, MAX, MAX), BAD);
        due(x.count(3), 0);
        due(x.eyes(50), 100);
        // By seed 0 the draws are 48, 88, 18, the good days 5, -1, 2, the photographs 75, 48, 13.
        due(x.race(0, 51, 0, 0), 3);
        int[] times = {955, 1998, 2856}, shoes = {-1, 0, 1};
        for (int k = 0; k < 3; k++) {
            due(x.of(k, 0), k);
            due(x.of(k, 1), 0);
            due(x.of(k, 2), 5);
            due(x.of(k, 3), times[k]);
            due(x.of(k, 4), shoes[k]);
        }
        // The second's draw is 88, the third's is 18; ahead of the third are two, of the second one.
        x.law();
        told(x, "z=88&p=1|z=18&p=2&n=3");
        due(x.race(20, 51, 0, 0), 3);
        due(x.of(4, 3), 2000 * (1000 - 1 - 50) / 1000);
        due(x.of(5, 3), 2856);
        x = threeOnTheLine();
        x.ran(0, 1, 1000);
        x.ran(0, 1, 1000);
        x.ran(0, 1, 1000);
        // By seed -1 the good days are 5, -3, -7; a day of 20 thousandths more, a course of 1500.
        x.eyes(100);
        due(x.race(11, 991, 20, -1), 3);
        int[] hard = {1500 * 975 / 1000, 3000 * 967 / 1000, 4500 * 963 / 1000};
        for (int k = 0; k < 3; k++) {
            due(x.of(3 + k, 3), hard[k]);
            due(x.of(3 + k, 1), 1);
            due(x.of(3 + k, 4), 1);
        }
        due(x.race(0, 0, -50, 1), 3);
        due(x.of(6, 3), 954);
        for (int k = 3; k < 40; k++) {
            due(x.race(10, 50, 50, k), 3);
        }
        due(x.count(3), 120);
        due(x.race(10, 50, 0, 7), STATE);
        due(x.race(10, 41, 0, 7), BAD);
        due(x.count(3), 120);
        // 119 runs and three runners: not one of them runs.
        x = threeOnTheLine();
        x.ran(0, 1, 1000);
        x.ran(0, 1, 1000);
        x.ran(0, 1, 1000);
        for (int k = 0; k < 38; k++) {
            due(x.race(0, 0, 0, k), 3);
        }
        due(x.ran(0, 1, 1000), 117);
        due(x.race(0, 0, 0, 0), STATE);
        due(x.count(3), 118);
        // None to run; a form that falls to 600 and no lower; times that are held.
        x = fresh(12);
        x.course(2000);
        told(x, "0");
        due(x.race(0, 0, 0, 0), 0);
        x.runner(700, 0);
        x.runner(9999, 100000);
        x.shoe(1, -99, 0);
        told(x, "1");
        due(x.race(0, 20, 0, 0), 2);
        due(x.of(0, 3), 1206);
        due(x.race(0, 10, 0, 0), 2);
        due(x.of(2, 3), 1306);
        due(x.race(10, 991, 50, 0), 2);
        due(x.of(5, 3), 29999);
    }

    /** Five runs of one runner, level by level: old, new, new, old, old; then one unseen, and one behind it. */
    private static ThreeHundred oneWhoChanged() {
        ThreeHundred x = new ThreeHundred();
        x.runner(1000, 50000);
        x.runner(1000, 50001);
        x.course(1000);
        x.course(500);
        x.shoe(40, 30, 0);
        x.ran(0, 31, 1030);
        x.ran(0, 2, 900);
        x.ran(0, 1, 1000);
        x.mend(1, 0, 955);
        x.ran(0, 12, 945);
        x.ran(0, 41, 1010);
        x.ran(0, 50, 1200);
        x.ran(0, 61, 1300);
        return x;
    }

    private static void changed() {
        fresh(13);
        ThreeHundred x = oneWhoChanged();
        // By year and number: 1 (new 955), 2 (old 1000), 3 (new 945), 0 (old 1030), 4 (old 1010), 5 unseen, 6.
        due(x.changed(0, 0), 55);
        due(x.changed(0, 1), 1);
        due(x.changed(1, 1), 2);
        due(x.changed(1, 0), (-47 - 89) / 2);
        due(x.changed(2, 0), 19);
        due(x.changed(2, 1), 1);
        due(x.changed(3, 0), VOID);
        due(x.changed(3, 1), 0);
        due(x.changed(4, 0), VOID);
        due(x.changed(-1, 1), VOID);
        due(x.changed(0, 2), VOID);
        due(x.changed(0, -1), VOID);
        // Seen now: two pairs more, both old.
        x.mend(5, 1, 0);
        due(x.changed(2, 1), 3);
        due(x.changed(2, 0), (19 - 188 - 83) / 3);
        // What a shoe gives is what it gives now.
        x.mend(1, 2, 0);
        due(x.changed(2, 1), 6);
        due(x.changed(0, 1), 0);
        x.mend(1, 2, -1);
        due(x.changed(2, 1), 6);
        x.mend(1, 2, 1);
        due(x.changed(2, 1), 3);
        // Levels, not times; another runner is no next one.
        x.ran(101, 92, 400);
        x.ran(101, 92, 300);
        due(x.changed(3, 0), 250);
        due(x.changed(3, 1), 1);
        x.ran(100, 82, 1000);
        due(x.changed(3, 0), (200 + 250) / 2);
        x.ran(100, 991, 10);
        x.ran(100, 991, 29999);
        due(x.changed(2, 0), (19 - 188 - 83 - 2998900) / 4);
    }

    private static void gain() {
        ThreeHundred x = fresh(14);
        for (int what = -1; what < 6; what++) {
            due(x.gain(what), VOID);
        }
        x = oneWhoChanged();
        due(x.gain(0), 55 - 19);
        // Only the race of year 0 has both: old 1000, new 955.
        due(x.gain(1), 45);
        due(x.gain(2), 9);
        due(x.gain(3), 36);
        due(x.gain(4), 68);
        due(x.gain(5), VOID);
        due(x.gain(-1), VOID);
        // Another race on another course: old 600, new 500 and 501; the means are cut.
        x.ran(101, 1, 300);
        x.ran(101, 2, 250);
        x.ran(101, 2, 251);
        x.ran(101, 0, 10);
        due(x.gain(1), (45 + (600 - 501) * 1000 / 600) / 2);
        x.person(0);
        due(x.gain(1), (45 + (600 - 500) * 1000 / 600) / 2);
        // The race that is the last of all.
        x.ran(101, 991, 1000);
        x.ran(1, 992, 700);
        due(x.gain(1), (45 + 165 + 300) / 3);
        x = fresh(14);
        x.runner(1000, 50000);
        x.runner(1000, 50000);
        x.course(1000);
        x.shoe(40, 30, 0);
        x.ran(0, 2, 1000);
        x.ran(0, 11, 1100);
        due(x.gain(0), VOID);
        due(x.gain(1), VOID);
        due(x.gain(2), VOID);
        due(x.gain(3), 100);
        due(x.gain(4), 100);
        x.ran(100, 1, 1010);
        due(x.gain(1), 9);
        due(x.gain(2), VOID);
        due(x.gain(3), 9);
        due(x.gain(4), 100);
        x.ran(100, 2, 1010);
        due(x.changed(0, 0), 0);
        due(x.gain(0), VOID);
        x.ran(100, 11, 1000);
        x.ran(100, 21, 1100);
        due(x.changed(2, 0), -100);
        due(x.gain(0), 100);
        due(x.gain(2), 4 - 100);
        due(x.gain(3), 4);
    }

    private static void unseen() {
        ThreeHundred x = fresh(15);
        due(x.unseen(0, 0), VOID);
        for (int k = 0; k < 14; k++) {
            x.runner(1000 + k, 50000);
        }
        x.course(1000);
        x.course(1000);
        x.shoe(40, 30, 0);
        x.ran(0, 51, 1000);
        x.ran(100, 52, 900);
        due(x.unseen(5, 0), VOID);
        x.ran(200, 50, 950);
        // Old: 975 and 900, or new: 1000 and 925.
        due(x.unseen(5, 0), 75 * 1000 / 1000);
        due(x.unseen(5, 1), 75 * 1000 / 975);
        x.ran(300, 50, 800);
        // 950 new and 800 old: 900 and 925.
        due(x.unseen(5, 0), -27);
        due(x.unseen(5, 1), 128);
        due(x.unseen(5, 2), VOID);
        due(x.unseen(5, -1), VOID);
        due(x.unseen(6, 0), VOID);
        due(x.unseen(105, 0), VOID);
        due(x.unseen(205, 0), VOID);
        due(x.unseen(-95, 0), VOID);
        due(x.unseen(-1, 0), VOID);
        due(x.unseen(MIN, 0), VOID);
        due(x.unseen(MAX, 0), VOID);
        // One alone is never both; two unseen are.
        x.ran(1, 70, 500);
        due(x.unseen(107, 0), VOID);
        x.ran(101, 70, 600);
        due(x.unseen(107, 0), -200);
        due(x.unseen(107, 1), 166);
        // All seen ones are new: one unseen at least is old.
        x.ran(1, 82, 500);
        x.ran(101, 80, 1000);
        due(x.unseen(108, 0), 500);
        due(x.unseen(108, 1), 500);
        for (int k = 0; k < 12; k++) {
            x.ran(100 * k, 90, 1000 + 100 * k);
        }
        // Old is 1000 alone, or new is.
        due(x.unseen(9, 0), -600);
        due(x.unseen(9, 1), 375);
        int[] edges = {0, 100, 99, 199};
        for (int cy : edges) {
            x.ran(cy / 100, 10 * (cy % 100), 500 + cy);
            x.ran(cy / 100, 10 * (cy % 100) + 1, 1000);
            due(x.unseen(cy, 0), 500 - cy);
            due(x.unseen(cy, 1), 500 - cy);
        }
        x.ran(1200, 90, 1000);
        due(x.unseen(9, 0), VOID);
        due(x.unseen(9, 1), VOID);
    }

    private static void person() {
        fresh(16);
        ThreeHundred x = oneWhoChanged();
        // Old: 1030, 1000, 1010, 1300; new: 955, 945.
        due(x.person(0), (1085 - 950) * 1000 / 1085);
        due(x.person(1), VOID);
        due(x.person(-1), VOID);
        due(x.person(2), VOID);
        due(x.person(MAX), VOID);
        x.ran(101, 1, 500);
        due(x.person(1), VOID);
        x.ran(101, 2, 501);
        due(x.person(1), -2);
        x.mend(7, 1, 1);
        due(x.person(1), VOID);
    }

    /** Gains 100, 0, -50, none, 100; sexes 0, 1, 0, 1, 1. */
    private static ThreeHundred fiveOfThem() {
        ThreeHundred x = new ThreeHundred();
        x.course(1000);
        x.shoe(40, 30, 0);
        int[] news = {900, 1000, 1050, 0, 900}, sexes = {0, 1, 0, 1, 1};
        for (int k = 0; k < 5; k++) {
            x.runner(1000, 50000 + sexes[k]);
            x.ran(100 * k, 1, 1000);
            x.ran(100 * k, 12, news[k]);
        }
        return x;
    }

    private static void shares() {
        fresh(17);
        ThreeHundred x = fiveOfThem();
        due(x.shares(2, 100, 0), 2);
        due(x.shares(2, 101, 0), 0);
        due(x.shares(2, 0, 0), 3);
        due(x.shares(2, MIN, 0), 4);
        due(x.shares(2, VOID, 0), 4);
        due(x.shares(2, MAX, 0), 0);
        due(x.shares(0, 0, 0), 1);
        due(x.shares(1, 0, 0), 2);
        due(x.shares(2, 77, 1), 2);
        due(x.shares(0, 0, 1), 1);
        due(x.shares(1, 0, 1), 1);
        due(x.shares(2, 0, 2), 4);
        due(x.shares(0, 0, 2), 2);
        due(x.shares(1, 0, 2), 2);
        x.mend(1, 0, 999);
        due(x.person(0), 1);
        due(x.shares(2, 0, 1), 2);
        due(x.shares(2, 1, 0), 2);
        due(x.shares(3, 0, 0), BAD);
        due(x.shares(-1, 0, 0), BAD);
        due(x.shares(0, 0, 3), BAD);
        due(x.shares(0, 0, -1), BAD);
    }

    private static void led() {
        ThreeHundred x = fresh(18);
        due(x.led(), NOT);
        x.runner(1000, 50000);
        due(x.led(), NOT);
        x = fiveOfThem();
        due(x.led(), 0);
        x.mend(1, 0, 901);
        due(x.led(), 4);
        x.mend(8, 1, -1);
        due(x.led(), 0);
        x.mend(0, 1, -1);
        due(x.led(), 1);
        x.mend(2, 1, -1);
        due(x.led(), 2);
        x.mend(4, 1, -1);
        due(x.led(), NOT);
    }

    private static void point() {
        ThreeHundred x = fresh(19);
        due(x.point(-1, 0), BAD);
        due(x.point(100, 0), BAD);
        due(x.point(0, -1), BAD);
        due(x.point(0, 100), BAD);
        due(x.count(6), 0);
        due(x.point(0, 0), 1);
        due(x.point(0, 5), BAD);
        for (int k = 2; k <= 6; k++) {
            due(x.point(k, 99), k);
            due(x.point(k, 0), BAD);
            due(x.point(k - 1, 0), BAD);
        }
        due(x.point(99, 0), FULL);
        due(x.point(6, 0), BAD);
        due(x.point(99, 100), BAD);
        due(x.count(6), 6);
        x = fresh(19);
        due(x.point(99, 0), 1);
        due(x.point(99, 0), BAD);
    }

    private static void belt() {
        ThreeHundred x = fresh(20);
        due(x.belt(-1, 0), STATE);
        due(x.belt(-1, 100), BAD);
        due(x.belt(0, 0), BAD);
        x.runner(1299, 59000);
        due(x.belt(0, 0), STATE);
        x.point(10, 7);
        due(x.belt(-1, 0), 7);
        due(x.belt(-1, 10), 7);
        due(x.belt(-1, 99), 7);
        x.point(20, 40);
        x.point(23, 39);
        int[] at = {9, 10, 11, 15, 19, 20, 21, 22, 23, 24, 99}, give = {7, 7, 10, 23, 36, 40, 39, 39, 39, 39, 39};
        for (int k = 0; k < at.length; k++) {
            due(x.belt(-1, at[k]), give[k]);
        }
        due(x.belt(0, 15), 1299 * 23 / 1000);
        x.runner(9999, 0);
        x.point(30, 99);
        due(x.belt(1, 99), 989);
        due(x.belt(-1, -1), BAD);
        due(x.belt(-1, 100), BAD);
        due(x.belt(-2, 0), BAD);
        due(x.belt(2, 0), BAD);
        due(x.belt(MIN, 0), BAD);
        due(x.belt(-1, MAX), BAD);
    }

    private static ThreeHundred recordRuns() {
        ThreeHundred x = new ThreeHundred();
        x.runner(1000, 50000);
        x.course(1000);
        x.course(1000);
        x.course(1000);
        x.shoe(40, 50, 0);
        x.shoe(30, 10, 0);
        x.ran(0, 31, 980);
        x.ran(0, 11, 1000);
        x.ran(0, 10, 990);
        x.ran(0, 12, 985);
        x.ran(0, 22, 985);
        x.ran(0, 33, 970);
        x.ran(0, 30, 970);
        x.ran(0, 42, 900);
        x.ran(1, 1, 10);
        return x;
    }

    private static void records() {
        fresh(21);
        ThreeHundred x = recordRuns();
        // Year 1: 985 leads; year 2: as quick; year 3: 970, the lesser number; year 4: 900.
        due(x.records(0, 99, -1), 3);
        due(x.records(0, 99, 0), 3);
        due(x.records(0, 99, 1), 5);
        due(x.records(0, 99, 2), 7);
        due(x.records(0, 99, 3), BAD);
        due(x.records(0, 99, -2), BAD);
        due(x.records(0, 99, MAX), BAD);
        due(x.records(0, 100, -1), BAD);
        due(x.records(0, -1, -1), BAD);
        due(x.records(3, 99, -1), BAD);
        due(x.records(-1, 99, -1), BAD);
        due(x.records(1, 99, -1), 1);
        due(x.records(1, 99, 0), 8);
        due(x.records(2, 99, -1), 0);
        due(x.records(2, 99, 0), BAD);
        // Without what is thicker than 39, 40, 29, 19: those unseen stay.
        due(x.records(0, 39, -1), 2);
        due(x.records(0, 39, 0), 2);
        due(x.records(0, 39, 1), 5);
        due(x.records(0, 40, -1), 3);
        due(x.records(0, 29, 1), 6);
        due(x.records(0, 0, -1), 2);
        due(x.records(0, 0, 0), 2);
        due(x.records(0, 0, 1), 6);
        due(x.records(1, 19, -1), 0);
        x = fresh(21);
        x.runner(1000, 50000);
        x.course(1000);
        x.ran(0, 1, 29999);
        due(x.records(0, 99, -1), 1);
        due(x.records(0, 99, 0), 0);
        x.ran(0, 11, 29998);
        due(x.records(0, 99, 1), 1);
    }

    private static void best() {
        fresh(22);
        ThreeHundred x = recordRuns();
        // Old minutes: 7 has 947, 5 has 979, 6 (unseen) 970 as it is.
        due(x.best(0, 50, 0), 7);
        due(x.best(0, 50, 1), 46);
        due(x.best(0, 4, 1), 0);
        due(x.best(0, 1, 1), -3);
        due(x.best(1, 0, 0), 8);
        due(x.best(1, 0, 1), 0);
        due(x.best(0, 100, 0), BAD);
        due(x.best(0, -1, 0), BAD);
        due(x.best(0, 50, 2), BAD);
        due(x.best(0, 50, -1), BAD);
        due(x.best(3, 50, 0), BAD);
        due(x.best(-1, 50, 0), BAD);
        due(x.best(2, 50, 0), NOT);
        due(x.best(2, 50, 1), NOT);
        x.mend(7, 1, 0);
        due(x.best(0, 50, 0), 7);
        x.mend(7, 0, 980);
        due(x.best(0, 50, 0), 6);
        x.mend(0, 0, 970);
        due(x.best(0, 50, 0), 0);
        due(x.best(0, 50, 1), 47);
        x.mend(1, 2, -99);
        due(x.best(0, 99, 0), 3);
        due(x.best(0, 99, 1), 98);
    }

    private static void rule() {
        ThreeHundred x = fresh(23);
        due(x.rule(0), 0);
        x = recordRuns();
        due(x.rule(0), 7);
        due(x.rule(19), 7);
        due(x.rule(20), 4);
        due(x.rule(29), 4);
        due(x.rule(30), 3);
        due(x.rule(39), 3);
        due(x.rule(40), 0);
        due(x.rule(99), 0);
        due(x.rule(-1), BAD);
        due(x.rule(100), BAD);
        due(x.rule(MIN), BAD);
    }

    private static void dead() {
        ThreeHundred x = fresh(24);
        x.shoe(40, 33, 0);
        x.shoe(40, -33, 0);
        int[] gives = {33, 29, 26, 23, 19, 16, 13, 9, 6, 3, 0, 0};
        for (int k = 0; k < gives.length; k++) {
            due(x.dead(1, k), gives[k]);
            due(x.dead(2, k), -gives[k]);
            due(x.dead(0, k), 0);
        }
        due(x.dead(1, 99), 0);
        due(x.dead(1, 100), VOID);
        due(x.dead(1, -1), VOID);
        due(x.dead(3, 0), VOID);
        due(x.dead(-1, 0), VOID);
    }

    private static void needed() {
        ThreeHundred x = fresh(25);
        x.shoe(40, 4, 0);
        x.shoe(40, -4, 0);
        x.shoe(40, 1, 0);
        due(x.needed(1), NOT);
        due(x.needed(0), NOT);
        due(x.needed(4), BAD);
        due(x.needed(-1), BAD);
        x.course(1000);
        x.runner(1000, 50000);
        x.runner(1000, 50000);
        x.ran(0, 1, 1000);
        x.ran(0, 11, 1000);
        // No spread: one is enough.
        due(x.needed(1), 1);
        x.ran(100, 1, 1000);
        x.ran(100, 11, 980);
        // Gained 0 and 20: mean 10, spread 100; 16 n is more than 400 from 26 on.
        due(x.needed(1), 26);
        due(x.needed(2), 26);
        due(x.needed(3), 401);
        due(x.needed(0), NOT);
        x.mend(3, 0, 975);
        // 0 and 25: mean 12, the squares 144 and 169, spread 156.
        due(x.needed(3), 625);
        x.mend(3, 0, 969);
        due(x.needed(3), 961);
        x.mend(1, 0, 989);
        x.mend(3, 0, 957);
        // 11 and 43: mean 27, spread 256: one in the thousand would need 1025.
        due(x.needed(3), NOT);
        due(x.needed(1), 65);
        x.mend(1, 0, 1000);
        x.mend(3, 0, 967);
        // 0 and 33: mean 16, the squares 256 and 289, spread 272.
        due(x.needed(3), NOT);
        due(x.needed(1), 69);
        x.mend(1, 1, -1);
        x.mend(3, 1, -1);
        due(x.needed(1), NOT);
        // The spread of 0, 2, 68 is 998: 999 are enough for 2; that of 0, 5, 103 is 2248: 3 would need 1000.
        due(neededBy(2, 2, 68), 999);
        due(neededBy(-2, 2, 68), 999);
        due(neededBy(3, 5, 103), NOT);
    }

    private static int neededBy(int gives, int second, int third) {
        ThreeHundred x = new ThreeHundred();
        x.course(1000);
        x.shoe(40, gives, 0);
        int[] gained = {0, second, third};
        for (int k = 0; k < 3; k++) {
            x.runner(1000, 50000);
            x.ran(100 * k, 1, 1000);
            x.ran(100 * k, 11, 1000 - gained[k]);
        }
        return x.needed(1);
    }

    private static void undo() {
        ThreeHundred x = fresh(26);
        due(x.undo(), STATE);
        x.course(1000);
        x.runner(1000, 50000);
        x.shoe(40, 30, 0);
        x.ran(0, 1, 1000);
        due(x.undo(), STATE);
        x.mend(0, 0, 1001);
        x.mend(0, 1, -1);
        x.mend(1, 2, 31);
        x.mend(1, 2, 31);
        x.mend(1, 2, 100);
        due(x.count(7), 3);
        due(x.undo(), 2);
        due(x.dead(1, 0), 30);
        due(x.of(0, 4), -1);
        due(x.undo(), 1);
        due(x.of(0, 4), 0);
        due(x.of(0, 3), 1001);
        due(x.undo(), 0);
        due(x.of(0, 3), 1000);
        due(x.undo(), STATE);
        due(x.count(7), 0);
        // Forty are kept, the latest.
        for (int k = 1; k <= 43; k++) {
            due(x.mend(0, 0, 1000 + k), 999 + k);
        }
        due(x.count(7), 40);
        for (int k = 39; k >= 0; k--) {
            due(x.undo(), k);
        }
        due(x.undo(), STATE);
        due(x.of(0, 3), 1003);
        // Each of the forty keeps what it was of.
        for (int k = 1; k < 9; k++) {
            x.ran(0, 1, 500);
        }
        for (int k = 0; k < 60; k++) {
            int turn = k % 3;
            x.mend(turn == 2 ? 1 : k % 9, turn, turn == 0 ? 2000 + k : turn == 1 ? (x.of(k % 9, 4) + 2) % 3 - 1 : k);
        }
        for (int k = 0; k < 40; k++) {
            x.undo();
        }
        int[] times = {2018, 500, 500, 2012, 500, 500, 2015, 500, 500}, shoes = {0, 0, 0, 0, -1, 0, 0, -1, 0};
        for (int run = 0; run < 9; run++) {
            due(x.of(run, 3), times[run]);
            due(x.of(run, 4), shoes[run]);
        }
        due(x.dead(1, 0), 17);
        for (int k = 39; k >= 0; k--) {
            due(x.redo(), k);
        }
        // Done again: as it was ahead of all the undoing.
        int[] latestTimes = {2054, 500, 500, 2057, 500, 500, 2051, 500, 500}, latestShoes = {0, 1, 0, 0, 1, 0, 0, 0, 0};
        for (int run = 0; run < 9; run++) {
            due(x.of(run, 3), latestTimes[run]);
            due(x.of(run, 4), latestShoes[run]);
        }
        due(x.dead(1, 0), 59);
    }

    private static void redo() {
        ThreeHundred x = fresh(27);
        due(x.redo(), STATE);
        x.course(1000);
        x.runner(1000, 50000);
        x.shoe(40, 30, 0);
        x.ran(0, 1, 1000);
        x.mend(0, 0, 1001);
        due(x.redo(), STATE);
        x.mend(0, 1, 1);
        x.mend(1, 2, -5);
        x.undo();
        x.undo();
        x.undo();
        due(x.redo(), 2);
        due(x.of(0, 3), 1001);
        due(x.of(0, 4), 0);
        due(x.count(7), 1);
        due(x.redo(), 1);
        due(x.of(0, 4), 1);
        // What changes nothing does not come behind; a run does not, either.
        due(x.mend(0, 0, 1001), 1001);
        due(x.mend(0, 0, 1), VOID);
        x.ran(0, 1, 1000);
        due(x.redo(), 0);
        due(x.dead(1, 0), -5);
        due(x.redo(), STATE);
        x.undo();
        x.undo();
        due(x.mend(0, 0, 1002), 1001);
        due(x.redo(), STATE);
        due(x.undo(), 1);
        due(x.redo(), 0);
        due(x.of(0, 3), 1002);
        due(x.of(0, 4), 0);
        for (int k = 0; k < 50; k++) {
            x.mend(0, 0, 2000 + k);
        }
        for (int k = 0; k < 40; k++) {
            x.undo();
        }
        for (int k = 39; k >= 0; k--) {
            due(x.redo(), k);
        }
        due(x.redo(), STATE);
        due(x.of(0, 3), 2049);
    }

    private static void body() {
        ThreeHundred x = fresh(28);
        due(x.body(-1), BAD);
        due(x.body(8), BAD);
        for (int k = 0; k < 50; k++) {
            due(x.body(k % 8), k);
        }
        due(x.body(0), FULL);
        due(x.body(8), BAD);
        due(x.count(8), 50);
    }

    private static void acted(ThreeHundred x, int act, int value, int... bodies) {
        due(x.act(x.count(8) - 1, act, 7), value);
        due(x.count(9), bodies.length);
        for (int k = 0; k < bodies.length; k++) {
            due(x.trace(k), bodies[k]);
        }
        due(x.trace(bodies.length), BAD);
    }

    private static ThreeHundred bodyOf(int kind) {
        ThreeHundred x = new ThreeHundred();
        x.body(0);
        x.body(1);
        x.body(2);
        x.body(kind);
        return x;
    }

    private static void act() {
        // n is 3, x is 7.
        ThreeHundred x = fresh(29);
        x = bodyOf(0);
        acted(x, 0, 10, 1);
        acted(x, 1, 20, 10, 1);
        acted(x, 2, 4, 11);
        acted(x, 3, 18, 2, 10, 1, 11);
        x = bodyOf(1);
        acted(x, 0, 13, 20, 1);
        acted(x, 1, 26, 10, 20, 1);
        acted(x, 2, 4, 11);
        acted(x, 3, 24, 2, 10, 20, 1, 11);
        x = bodyOf(2);
        acted(x, 0, 10, 1);
        acted(x, 1, -20, 30, 10, 1);
        acted(x, 3, -22, 2, 30, 10, 1, 11);
        x = bodyOf(3);
        acted(x, 0, 14, 41, 20, 1);
        acted(x, 1, 28, 10, 41, 20, 1);
        acted(x, 2, 12, 40, 11);
        acted(x, 3, 22, 2, 10, 41, 20, 1, 40, 11);
        x = bodyOf(4);
        acted(x, 0, 10, 1);
        acted(x, 1, 20, 10, 1);
        acted(x, 2, -1, 50, 11, 1);
        acted(x, 3, 23, 2, 10, 1, 50, 11, 1);
        x = bodyOf(5);
        acted(x, 1, -20, 30, 10, 1);
        acted(x, 3, -22 ^ 5, 60, 2, 30, 10, 1, 11);
        x = bodyOf(6);
        acted(x, 0, 20, 70, 1);
        acted(x, 1, 40, 10, 70, 1);
        acted(x, 3, 38, 2, 10, 70, 1, 11);
        x = bodyOf(7);
        acted(x, 0, 10, 1);
        acted(x, 1, 16, 80, 10, 1, 50, 11, 1);
        acted(x, 2, -1, 50, 11, 1);
        acted(x, 3, 18, 81, 2, 80, 10, 1, 50, 11, 1, 50, 11, 1);
        due(x.act(4, 0, 7), 0);
        due(x.count(9), 0);
        due(x.trace(0), BAD);
        x.act(3, 3, 7);
        due(x.act(-1, 0, 7), 0);
        due(x.count(9), 0);
        x.act(3, 3, 7);
        due(x.act(3, 4, 7), 0);
        due(x.count(9), 0);
        x.act(3, 3, 7);
        due(x.act(3, -1, 7), 0);
        due(x.count(9), 0);
        // Ints wrap.
        due(x.act(1, 0, MAX), MIN + 3);
        due(x.act(0, 1, MAX), -2);
        due(x.act(0, 2, MIN), MIN);
    }

    private static void trace() {
        ThreeHundred x = fresh(30);
        due(x.trace(0), BAD);
        x.body(7);
        x.act(0, 3, 1);
        due(x.count(9), 11);
        due(x.trace(-1), BAD);
        due(x.trace(0), 81);
        due(x.trace(10), 1);
        due(x.trace(11), BAD);
        due(x.trace(23), BAD);
        due(x.trace(24), BAD);
        due(x.trace(MAX), BAD);
        x.act(0, 0, 1);
        due(x.trace(0), 1);
        due(x.trace(1), BAD);
    }

    private static void keep() {
        ThreeHundred x = fresh(31);
        due(x.keep(0, 0), BAD);
        x.body(2);
        due(x.keep(-1, 0), BAD);
        due(x.keep(6, 0), BAD);
        due(x.keep(0, 1), BAD);
        due(x.keep(0, -2), BAD);
        due(x.taken(0, 2), -11);
        due(x.keep(0, 0), 1);
        due(x.keep(5, 0), 1);
        due(x.taken(0, 2), 2);
        due(x.keep(0, 1), BAD);
        due(x.taken(0, 2), 2);
        due(x.keep(0, -1), 1);
        due(x.taken(0, 2), -11);
        due(x.taken(5, 2), 2);
        // A row gives way to a gain, and comes again new.
        x.row(1, 2, 3);
        x.put(1, 0, 5);
        due(x.keep(1, 0), 1);
        due(x.put(1, 0, 5), -12);
        x.row(1, 2, 3);
        due(x.element(1, 0), 0);
    }

    private static void row() {
        ThreeHundred x = fresh(32);
        due(x.row(-1, 0, 1), BAD);
        due(x.row(6, 0, 1), BAD);
        due(x.row(0, -1, 1), BAD);
        due(x.row(0, 5, 1), BAD);
        due(x.row(0, 0, 61), BAD);
        due(x.row(0, 5, -1), BAD);
        due(x.row(6, 0, -1), BAD);
        due(x.row(0, 0, -1), -14);
        due(x.row(0, 0, MIN), -14);
        due(x.put(0, 0, 1), -11);
        for (int sort = 0; sort < 5; sort++) {
            due(x.row(sort, sort, 60), 1);
            due(x.put(sort, 59, 1), 1);
            due(x.put(sort, 60, 1), -13);
            due(x.row(sort, sort, -1), -14);
            due(x.element(sort, 59), 1);
            due(x.row(sort, sort, 60), 1);
            due(x.element(sort, 59), 0);
            due(x.row(sort, sort, 0), 1);
            due(x.put(sort, 0, 1), -13);
        }
    }

    private static void put() {
        ThreeHundred x = fresh(33);
        due(x.put(-1, 0, 1), BAD);
        due(x.put(6, 0, 1), BAD);
        due(x.put(0, 0, 1), -11);
        due(x.put(0, -1, 1), -11);
        x.body(0);
        x.keep(0, 0);
        due(x.put(0, 0, 1), -12);
        due(x.put(0, -1, 1), -12);
        long[] in = {0x1234567890abcdefL, -1L, 128, 32768, 0x80000000L, Long.MIN_VALUE, 0};
        long[][] out = {
            {(byte) 0xef, -1, -128, 0, 0, 0, 0},
            {(short) 0xcdef, -1, 128, -32768, 0, 0, 0},
            {0x90abcdef, -1, 128, 32768, MIN, 0, 0},
            in,
            {1, 1, 1, 1, 1, 1, 0},
        };
        for (int sort = 0; sort < 5; sort++) {
            x.row(sort, sort, 7);
            for (int i = 0; i < 7; i++) {
                due(x.put(sort, i, in[i]), 1);
            }
            due(x.put(sort, 7, 1), -13);
            due(x.put(sort, -1, 1), -13);
            due(x.put(sort, MAX, 1), -13);
            due(x.put(sort, MIN, 1), -13);
            for (int i = 0; i < 6; i++) {
                due(x.element(sort, i), out[sort][i]);
            }
            due(x.put(sort, 0, 0), 1);
            due(x.element(sort, 0), 0);
        }
    }

    private static void element() {
        ThreeHundred x = fresh(34);
        due(x.element(-1, 0), Long.MIN_VALUE);
        due(x.element(6, 0), Long.MIN_VALUE);
        due(x.element(0, 0), Long.MIN_VALUE);
        x.body(0);
        x.keep(0, 0);
        due(x.element(0, 0), Long.MIN_VALUE);
        x.row(0, 3, 2);
        due(x.element(0, 0), 0);
        due(x.element(0, 2), Long.MIN_VALUE);
        due(x.element(0, -1), Long.MIN_VALUE);
        due(x.element(0, MAX), Long.MIN_VALUE);
        x.put(0, 1, Long.MAX_VALUE);
        due(x.element(0, 1), Long.MAX_VALUE);
        due(x.element(0, 0), 0);
    }

    private static void are(ThreeHundred x, int shelf, long... all) {
        for (int i = 0; i < all.length; i++) {
            due(x.element(shelf, i), all[i]);
        }
    }

    private static void shift() {
        ThreeHundred x = fresh(35);
        x.row(0, 2, 6);
        for (int i = 0; i < 6; i++) {
            x.put(0, i, i + 1);
        }
        due(x.shift(-1, 0, 0, 0, 1), BAD);
        due(x.shift(0, 0, 6, 0, 1), BAD);
        due(x.shift(0, 0, 1, 0, 1), -11);
        due(x.shift(1, 0, 0, 0, 1), -11);
        due(x.shift(1, 0, 1, 0, 0), -11);
        x.body(0);
        x.keep(2, 0);
        due(x.shift(2, 0, 1, 0, 1), -11);
        due(x.shift(0, 0, 2, 0, 1), -12);
        due(x.shift(2, 0, 0, 0, 1), -12);
        due(x.shift(2, 0, 2, 0, 0), -12);
        x.row(3, 3, 6);
        due(x.shift(0, 9, 3, 9, 9), -12);
        x.row(1, 2, 3);
        due(x.shift(0, -1, 1, 0, 1), -13);
        due(x.shift(0, 0, 1, -1, 1), -13);
        due(x.shift(0, 0, 1, 0, -1), -13);
        due(x.shift(0, 6, 1, 0, 1), -13);
        due(x.shift(0, 0, 1, 0, 4), -13);
        due(x.shift(0, 4, 1, 0, 3), -13);
        due(x.shift(0, MAX, 1, MAX, MAX), -13);
        due(x.shift(0, 1, 1, 1, MAX), -13);
        are(x, 1, 0, 0, 0);
        due(x.shift(0, 6, 1, 3, 0), 0);
        due(x.shift(0, 7, 1, 3, 0), -13);
        due(x.shift(0, 3, 1, 0, 3), 3);
        are(x, 1, 4, 5, 6);
        due(x.shift(0, 0, 0, 2, 4), 4);
        are(x, 0, 1, 2, 1, 2, 3, 4);
        due(x.shift(0, 1, 0, 0, 5), 5);
        are(x, 0, 2, 1, 2, 3, 4, 4);
        due(x.shift(0, 0, 0, 0, 6), 6);
        are(x, 0, 2, 1, 2, 3, 4, 4);
    }

    private static void taken() {
        ThreeHundred x = fresh(36);
        int[] above = {-1, 0, 0, 1, 0, 2, 0, 4};
        due(x.taken(0, 0), -11);
        due(x.taken(-1, 0), BAD);
        due(x.taken(6, 0), BAD);
        due(x.taken(0, -1), BAD);
        due(x.taken(0, 8), BAD);
        for (int kind = 0; kind < 8; kind++) {
            x.body(kind);
            x.keep(0, kind);
            for (int k = 0; k < 8; k++) {
                boolean isUnder = k == kind || k == above[kind] || above[kind] > 0 && k == above[above[kind]];
                due(x.taken(0, k), isUnder ? kind : -12);
            }
        }
        x.row(0, 2, 5);
        due(x.taken(0, 0), -12);
        x.keep(0, -1);
        due(x.taken(0, 0), -11);
        due(x.taken(0, 8), BAD);
    }

    private static void count() {
        ThreeHundred x = fresh(37);
        due(x.count(-1), BAD);
        due(x.count(10), BAD);
        due(x.count(MIN), BAD);
        due(x.count(MAX), BAD);
        x.runner(1000, 50000);
        x.shoe(40, 30, 0);
        x.shoe(40, 30, 0);
        x.course(1000);
        x.course(1000);
        for (int k = 0; k < 4; k++) {
            x.ran(0, 1, 1000);
        }
        told(x, "1");
        x.feed(3, 0);
        for (int k = 0; k < 6; k++) {
            x.point(k, 1);
        }
        for (int k = 0; k < 7; k++) {
            x.mend(0, 0, 2000 + k);
        }
        for (int k = 0; k < 8; k++) {
            x.body(7);
        }
        x.act(0, 3, 0);
        int[] many = {1, 3, 2, 4, 3, 1, 6, 7, 8, 11};
        for (int what = 0; what < 10; what++) {
            due(x.count(what), many[what]);
        }
    }
}
