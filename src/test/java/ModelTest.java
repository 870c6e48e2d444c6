import java.util.ArrayList;
import java.util.Comparator;
import java.util.List;
import java.util.Random;
import java.util.TreeSet;

/** Long runs of calls, drawn by fixed seeds, against a second, slower telling of the document. */
public final class ModelTest {
    private static int wrong = 0;

    public static void main(String[] args) {
        int many = args.length > 0 ? Integer.parseInt(args[0]) : 1500;
        for (int seed = 0; seed < many && wrong < 20; seed++) {
            new Driver(seed).go();
        }
        System.out.println(wrong == 0 ? "the model agrees in " + many + " runs" : wrong + " answers differ from the model's");
        if (wrong != 0) {
            System.exit(1);
        }
    }

    private static final class Driver {
        private final int seed;
        private final Random random;
        private final ThreeHundred x = new ThreeHundred();
        private final Model m = new Model();
        private final StringBuilder told = new StringBuilder();
        private final int bias;

        Driver(int seed) {
            this.seed = seed;
            this.random = new Random(seed);
            this.bias = seed % 4;
        }

        void go() {
            for (int call = 0; call < 512 && wrong < 20; call++) {
                one(call);
            }
        }

        private int to(int least, int most) {
            return least + random.nextInt(most - least + 1);
        }

        /** Mostly within, at times at an edge or far outside. */
        private int near(int least, int most) {
            int d = random.nextInt(60);
            if (d == 0) return least - 1;
            if (d == 1) return most + 1;
            if (d == 2) return Integer.MIN_VALUE;
            if (d == 3) return Integer.MAX_VALUE;
            if (d == 4) return -random.nextInt(1000);
            if (d == 5 || d == 6) return least;
            if (d == 7 || d == 8) return most;
            return to(least, most);
        }

        private void due(String call, long got, long want) {
            told.append(call).append(" -> ").append(want).append('\n');
            if (got != want) {
                wrong++;
                System.out.println("seed " + seed + ": " + call + " answered " + got + ", due is " + want);
                if (wrong == 1) {
                    System.out.println(told);
                }
            }
        }

        private int some(int n) {
            return near(0, Math.max(0, n - 1));
        }

        private void one(int call) {
            int op;
            if (call < 12) op = new int[] {0, 0, 0, 0, 0, 2, 2, 1, 1, 0, 7, 3}[call];
            else if (bias == 1 && random.nextInt(3) == 0) op = to(27, 35);
            else if (bias == 2 && random.nextInt(3) == 0) op = new int[] {7, 7, 7, 8, 6, 24, 25}[random.nextInt(7)];
            else if (bias == 3 && random.nextInt(3) == 0) op = new int[] {3, 3, 3, 10, 13, 14, 19}[random.nextInt(7)];
            else op = to(0, 40);
            if (op < 10) runnersAndLaws(op);
            else if (op < 20) comparing(op);
            else if (op < 27) rulesAndChanges(op);
            else if (op < 36) shelves(op);
            else if (op < 39) fill(op);
            else { int w = near(0, 9); due("count(" + w + ")", x.count(w), m.count(w)); }
        }

        private void runnersAndLaws(int op) {
            switch (op) {
                case 0: { int f = near(600, random.nextInt(2) == 0 ? 9999 : 1400), td = near(0, 100) * 1000 + near(0, 99) * 10 + near(0, 1);
                    due("runner(" + f + ", " + td + ")", x.runner(f, td), m.runner(f, td)); break; }
                case 1: { int t = near(1, 99), g = near(-99, 99), y = near(0, random.nextInt(2) == 0 ? 99 : 6);
                    due("shoe(" + t + ", " + g + ", " + y + ")", x.shoe(t, g, y), m.shoe(t, g, y)); break; }
                case 2: { int h = near(500, 2000); due("course(" + h + ")", x.course(h), m.course(h)); break; }
                case 3: { int rc = 100 * some(m.runners.size()) + some(m.courses.size());
                    int ys = 10 * near(0, random.nextInt(3) == 0 ? 99 : 4) + near(0, m.shoes.size());
                    int t = near(10, random.nextInt(3) == 0 ? 29999 : 60);
                    due("ran(" + rc + ", " + ys + ", " + t + ")", x.ran(rc, ys, t), m.ran(rc, ys, t)); break; }
                case 4: { int s = near(0, 5), i = near(0, 60), n = near(1, 12);
                    due("runs(" + s + ", " + i + ", " + n + ")", x.runs(s, i, n), m.runs(s, i, n)); break; }
                case 5: { int r = some(m.runs.size()), w = near(0, 7); due("of(" + r + ", " + w + ")", x.of(r, w), m.of(r, w)); break; }
                case 6: { int w = near(0, 2); int n = w == 2 ? some(m.shoes.size()) : some(m.runs.size());
                    int v = w == 0 ? near(10, random.nextInt(2) == 0 ? 29999 : 60) : w == 1 ? near(-1, m.shoes.size() - 1) : near(-99, 99);
                    due("mend(" + n + ", " + w + ", " + v + ")", x.mend(n, w, v), m.mend(n, w, v)); break; }
                case 7: law(); break;
                case 8: { int v = near(0, 100); due("eyes(" + v + ")", x.eyes(v), m.eyes(v)); break; }
                default: { if (random.nextInt(3) != 0) return;
                    int lc = 10 * some(m.laws.size()) + some(m.courses.size());
                    int ys = 10 * near(0, random.nextInt(2) == 0 ? 99 : 8) + some(m.shoes.size()), d = near(-50, 50), s = random.nextInt();
                    due("race(" + lc + ", " + ys + ", " + d + ", " + s + ")", x.race(lc, ys, d, s), m.race(lc, ys, d, s)); }
            }
        }

        private void comparing(int op) {
            switch (op) {
                case 10: { int s = near(0, 3), w = near(0, 1); due("changed(" + s + ", " + w + ")", x.changed(s, w), m.changed(s, w)); break; }
                case 11: { int w = near(0, 4); due("gain(" + w + ")", x.gain(w), m.gain(w)); break; }
                case 12: case 13: { int cy = 100 * some(m.courses.size()) + near(0, random.nextInt(3) == 0 ? 99 : 4), w = near(0, 1);
                    due("unseen(" + cy + ", " + w + ")", x.unseen(cy, w), m.unseen(cy, w)); break; }
                case 14: { int r = some(m.runners.size()); due("person(" + r + ")", x.person(r), m.person(r)); break; }
                case 15: { int s = near(0, 2), v = near(-300, 300), w = near(0, 2);
                    due("shares(" + s + ", " + v + ", " + w + ")", x.shares(s, v, w), m.shares(s, v, w)); break; }
                case 16: due("led()", x.led(), m.led()); break;
                case 17: { int b = near(0, random.nextInt(3) == 0 ? 99 : 12), t = near(0, 99);
                    due("point(" + b + ", " + t + ")", x.point(b, t), m.point(b, t)); break; }
                case 18: { int r = near(-1, Math.max(0, m.runners.size() - 1)), b = near(0, 99);
                    due("belt(" + r + ", " + b + ")", x.belt(r, b), m.belt(r, b)); break; }
                default: { int c = some(m.courses.size()), t = near(0, 99), i = near(-1, 5);
                    due("records(" + c + ", " + t + ", " + i + ")", x.records(c, t, i), m.records(c, t, i)); }
            }
        }

        private void rulesAndChanges(int op) {
            switch (op) {
                case 20: { int c = some(m.courses.size()), y = near(0, 99), w = near(0, 1);
                    due("best(" + c + ", " + y + ", " + w + ")", x.best(c, y, w), m.best(c, y, w)); break; }
                case 21: { int t = near(0, 99); due("rule(" + t + ")", x.rule(t), m.rule(t)); break; }
                case 22: { int s = some(m.shoes.size()), k = near(0, random.nextInt(2) == 0 ? 99 : 12);
                    due("dead(" + s + ", " + k + ")", x.dead(s, k), m.dead(s, k)); break; }
                case 23: { int s = some(m.shoes.size()); due("needed(" + s + ")", x.needed(s), m.needed(s)); break; }
                case 24: due("undo()", x.undo(), m.undo()); break;
                case 25: due("redo()", x.redo(), m.redo()); break;
                default: runnersAndLaws(6);
            }
        }

        private void shelves(int op) {
            switch (op) {
                case 27: { int k = near(0, 7); due("body(" + k + ")", x.body(k), m.body(k)); break; }
                case 28: { int b = some(m.bodies.size()), a = near(0, 3), v = random.nextInt() >> random.nextInt(32);
                    due("act(" + b + ", " + a + ", " + v + ")", x.act(b, a, v), m.act(b, a, v));
                    due("count(9)", x.count(9), m.count(9)); break; }
                case 29: { int i = near(0, 12); due("trace(" + i + ")", x.trace(i), m.trace(i)); break; }
                case 30: { int s = near(0, 5), b = near(-1, m.bodies.size() - 1); due("keep(" + s + ", " + b + ")", x.keep(s, b), m.keep(s, b)); break; }
                case 31: { int s = near(0, 5), k = near(0, 4), n = near(-1, random.nextInt(2) == 0 ? 60 : 6);
                    due("row(" + s + ", " + k + ", " + n + ")", x.row(s, k, n), m.row(s, k, n)); break; }
                case 32: { int s = near(0, 5), i = near(0, random.nextInt(2) == 0 ? 60 : 5);
                    long v = random.nextInt(4) == 0 ? 1L << random.nextInt(64) : random.nextLong() >> random.nextInt(64);
                    due("put(" + s + ", " + i + ", " + v + ")", x.put(s, i, v), m.put(s, i, v)); break; }
                case 33: { int s = near(0, 5), i = near(0, random.nextInt(2) == 0 ? 60 : 5);
                    due("element(" + s + ", " + i + ")", x.element(s, i), m.element(s, i)); break; }
                case 34: { int s = near(0, 5), o = random.nextInt(3) == 0 ? s : near(0, 5), i = near(0, 8), j = near(0, 8), n = near(0, 8);
                    due("shift(" + s + ", " + i + ", " + o + ", " + j + ", " + n + ")", x.shift(s, i, o, j, n), m.shift(s, i, o, j, n)); break; }
                default: { int s = near(0, 5), k = near(0, 7); due("taken(" + s + ", " + k + ")", x.taken(s, k), m.taken(s, k)); }
            }
        }

        /** A row of fives, whole or not, and the runs from it. */
        private void fill(int op) {
            if (op != 36) {
                runnersAndLaws(3);
                return;
            }
            int shelf = to(0, 5), n = to(0, 4) * 5 + to(0, 4), from = to(0, 2);
            due("row(" + shelf + ", 2, " + n + ")", x.row(shelf, 2, n), m.row(shelf, 2, n));
            for (int i = from; i < n; i++) {
                int[] most = {m.runners.size() - 1, m.courses.size() - 1, random.nextInt(8) == 0 ? 100 : 6, 60, m.shoes.size() - 1};
                int part = (i - from) % 5;
                long v = part == 4 ? to(-1, most[4]) : part == 3 ? to(10, 60) : to(0, Math.max(0, most[part]));
                if (random.nextInt(40) == 0) v = -1;
                due("put(" + shelf + ", " + i + ", " + v + ")", x.put(shelf, i, v), m.put(shelf, i, v));
            }
            int many = to(1, 12);
            due("runs(" + shelf + ", " + from + ", " + many + ")", x.runs(shelf, from, many), m.runs(shelf, from, many));
        }

        private void law() {
            StringBuilder text = new StringBuilder();
            lines(text);
            if (random.nextInt(3) == 0 && text.length() > 0) {
                int at = random.nextInt(text.length());
                char sign = "0123456789ftsypngkz+-*/%<=>&|!()?;x ".charAt(random.nextInt(36));
                int d = random.nextInt(3);
                if (d == 0) text.setCharAt(at, sign);
                if (d == 1) text.insert(at, sign);
                if (d == 2) text.setLength(at);
            }
            for (int at = 0; at < text.length(); ) {
                int n = Math.min(text.length() - at, to(1, 4)), v = random.nextInt();
                for (int k = 0; k < n; k++) {
                    v = v & ~(255 << 8 * k) | text.charAt(at + k) << 8 * k;
                }
                due("feed(" + n + ", " + v + ")", x.feed(n, v), m.feed(n, v));
                at += n;
            }
            if (random.nextInt(30) == 0) { int n = near(1, 4); due("feed(" + n + ", 0)", x.feed(n, 0), m.feed(n, 0)); }
            if (random.nextInt(10) != 0) due("law() of " + text, x.law(), m.law());
        }

        private void lines(StringBuilder text) {
            int many = random.nextInt(5) == 0 ? to(1, 3) : 1;
            for (int k = 0; k < many; k++) {
                if (k > 0) text.append(';');
                expression(text, 0);
                if (random.nextInt(2) == 0) { text.append('?'); expression(text, 0); }
            }
        }

        private void expression(StringBuilder text, int deep) {
            int many = random.nextInt(4) == 0 ? 4 : to(1, 2);
            for (int k = 0; k < many; k++) {
                if (k > 0) text.append("+-*/%<=>&|".charAt(random.nextInt(10)));
                int d = random.nextInt(deep > 5 ? 6 : 10);
                if (d < 3) text.append(random.nextInt(3) == 0 ? to(0, 9999) : to(0, 12));
                else if (d < 7) text.append("ftsypngkz".charAt(random.nextInt(9)));
                else if (d == 7) { text.append('!'); operand(text, deep + 1); }
                else if (d == 8) { text.append('-'); operand(text, deep + 1); }
                else { text.append('('); expression(text, deep + 1); text.append(')'); }
            }
        }

        private void operand(StringBuilder text, int deep) {
            int d = random.nextInt(6);
            if (d == 0) { text.append('('); expression(text, deep + 1); text.append(')'); }
            else if (d == 1) { text.append('!'); operand(text, deep + 1); }
            else if (d == 2) { text.append('-'); operand(text, deep + 1); }
            else text.append("ftsypngkz".charAt(random.nextInt(9)));
        }
    }

    // ---- the model

    private static final int BAD = -1, NOT = -2, FULL = -3, STATE = -5, VOID = -2000000000;

    private record Runner(int form, int drift, int trained, int sex) { }

    private static final class Shoe {
        int thick, gives, made;
        Shoe(int thick, int gives, int made) { this.thick = thick; this.gives = gives; this.made = made; }
    }

    private static final class Run {
        int number, runner, course, year, time, shoe;
        Run(int number, int runner, int course, int year, int time, int shoe) {
            this.number = number; this.runner = runner; this.course = course;
            this.year = year; this.time = time; this.shoe = shoe;
        }
        boolean seen() { return shoe >= 0; }
    }

    private record Change(int number, int what, int before, int after) { }

    private static final class Model {
        final List<Runner> runners = new ArrayList<>();
        final List<Shoe> shoes = new ArrayList<>(List.of(new Shoe(20, 0, 0)));
        final List<Integer> courses = new ArrayList<>();
        final List<Run> runs = new ArrayList<>();
        final List<String> laws = new ArrayList<>();
        final List<int[]> points = new ArrayList<>();
        final List<Gain> bodies = new ArrayList<>();
        final Object[] shelf = new Object[6];
        String tape = "";
        int eyes = 100;
        final List<Change> done = new ArrayList<>(), undone = new ArrayList<>();

        Model() {
            Gain.TRACE.clear();
        }

        int runner(int form, int td) {
            int drift = Math.floorDiv(td, 1000) - 50, trained = Math.floorMod(td, 1000) / 10, sex = Math.floorMod(td, 10);
            if (form < 600 || form > 9999 || drift < -50 || drift > 50 || sex > 1) return BAD;
            if (runners.size() == 20) return FULL;
            runners.add(new Runner(form, drift, trained, sex));
            return runners.size() - 1;
        }

        int shoe(int thick, int gives, int made) {
            if (thick < 1 || thick > 99 || gives < -99 || gives > 99 || made < 0 || made > 99) return BAD;
            if (shoes.size() == 6) return FULL;
            shoes.add(new Shoe(thick, gives, made));
            return shoes.size() - 1;
        }

        int course(int hard) {
            if (hard < 500 || hard > 2000) return BAD;
            if (courses.size() == 5) return FULL;
            courses.add(hard);
            return courses.size() - 1;
        }

        private boolean fits(int runner, int course, int year, int time, int shoe) {
            return runner >= 0 && runner < runners.size() && course >= 0 && course < courses.size() && year >= 0 && year < 100
                && time >= 10 && time <= 29999 && shoe >= -1 && shoe < shoes.size();
        }

        int ran(int rc, int ys, int time) {
            int runner = Math.floorDiv(rc, 100), course = Math.floorMod(rc, 100);
            int year = Math.floorDiv(ys, 10), shoe = Math.floorMod(ys, 10) - 1;
            if (!fits(runner, course, year, time, shoe)) return BAD;
            if (runs.size() == 120) return FULL;
            runs.add(new Run(runs.size(), runner, course, year, time, shoe));
            return runs.size() - 1;
        }

        int runs(int s, int i, int n) {
            if (s < 0 || s > 5 || n < 1 || n > 12) return BAD;
            if (shelf[s] != null && !(shelf[s] instanceof int[])) return -12;
            int came = 0;
            try {
                int[] row = (int[]) shelf[s];
                for (int at = i; came < n; at += 5) {
                    int a = row[at], b = row[at + 1], c = row[at + 2], d = row[at + 3], e = row[at + 4];
                    if (!fits(a, b, c, d, e) || runs.size() == 120) return came;
                    runs.add(new Run(runs.size(), a, b, c, d, e));
                    came++;
                }
            } catch (NullPointerException | ArrayIndexOutOfBoundsException ends) {
                return came;
            }
            return came;
        }

        int level(Run r) { return r.time * 1000 / courses.get(r.course); }

        int old(Run r) { return r.seen() ? r.time * 1000 / (1000 - shoes.get(r.shoe).gives) : r.time; }

        boolean isNew(Run r) { return r.seen() && shoes.get(r.shoe).gives > 0; }

        boolean isOld(Run r) { return r.seen() && shoes.get(r.shoe).gives <= 0; }

        int of(int run, int what) {
            if (run < 0 || run >= runs.size() || what < 0 || what > 7) return VOID;
            Run r = runs.get(run);
            if (what == 7) {
                if (!r.seen()) return -1;
                List<Run> own = new ArrayList<>();
                for (Run q : runs) if (q.runner == r.runner && q.shoe == r.shoe) own.add(q);
                own.sort(Comparator.comparingInt((Run q) -> q.year).thenComparingInt(q -> q.number));
                return own.indexOf(r);
            }
            return new int[] {r.runner, r.course, r.year, r.time, r.shoe, level(r), old(r)}[what];
        }

        private int set(int number, int what, int v) {
            int was;
            if (what == 0) { was = runs.get(number).time; runs.get(number).time = v; }
            else if (what == 1) { was = runs.get(number).shoe; runs.get(number).shoe = v; }
            else { was = shoes.get(number).gives; shoes.get(number).gives = v; }
            return was;
        }

        int mend(int number, int what, int v) {
            if (what < 0 || what > 2 || number < 0 || number >= (what == 2 ? shoes.size() : runs.size())) return VOID;
            if (what == 0 && (v < 10 || v > 29999)) return VOID;
            if (what == 1 && (v < -1 || v >= shoes.size())) return VOID;
            if (what == 2 && (number == 0 || v < -99 || v > 99)) return VOID;
            int was = set(number, what, v);
            if (was != v) {
                undone.clear();
                done.add(new Change(number, what, was, v));
                if (done.size() > 40) done.remove(0);
            }
            return was;
        }

        int undo() {
            if (done.isEmpty()) return STATE;
            Change c = done.remove(done.size() - 1);
            set(c.number, c.what, c.before);
            undone.add(c);
            return done.size();
        }

        int redo() {
            if (undone.isEmpty()) return STATE;
            Change c = undone.remove(undone.size() - 1);
            set(c.number, c.what, c.after);
            done.add(c);
            return undone.size();
        }

        int feed(int n, int v) {
            if (n < 1 || n > 4) return BAD;
            if (tape.length() + n > 120) return FULL;
            for (int k = 0; k < n; k++) tape += (char) (v >> 8 * k & 255);
            return tape.length();
        }

        int law() {
            if (laws.size() == 4) return FULL;
            String text = tape;
            tape = "";
            if (Text.isWhole(text)) {
                laws.add(text);
                return laws.size() - 1;
            }
            int fault = 0;
            while (fault < text.length() && Text.goesOn(text.substring(0, fault + 1))) fault++;
            return -100 - fault;
        }

        int eyes(int v) {
            if (v < 0 || v > 100) return BAD;
            int was = eyes;
            eyes = v;
            return was;
        }

        int formThen(Runner r, int year) { return Math.max(600, r.form + r.drift * year); }

        int race(int lc, int ys, int day, int seed) {
            int law = Math.floorDiv(lc, 10), course = Math.floorMod(lc, 10), year = Math.floorDiv(ys, 10), shoe = Math.floorMod(ys, 10);
            if (law < 0 || law >= laws.size() || course >= courses.size() || year < 0 || year > 99 || shoe >= shoes.size()) return BAD;
            if (shoes.get(shoe).made > year || day < -50 || day > 50) return BAD;
            if (runs.size() + runners.size() > 120) return STATE;
            int z = seed;
            for (int number = 0; number < runners.size(); number++) {
                Runner r = runners.get(number);
                z = z * 1103515245 + 12345;
                int draw = (z >>> 8) % 100, then = formThen(r, year), ahead = 0;
                for (Runner q : runners) if (formThen(q, year) < then) ahead++;
                int[] names = new int[128];
                names['f'] = then / 10; names['t'] = r.trained; names['s'] = r.sex; names['y'] = year; names['p'] = ahead;
                names['n'] = runners.size(); names['g'] = shoes.get(shoe).gives; names['k'] = shoes.get(shoe).thick; names['z'] = draw;
                int worn = Text.value(laws.get(law), names) != 0 ? shoe : 0;
                z = z * 1103515245 + 12345;
                int e = (z >>> 8) % 21 - 10;
                int time = then * courses.get(course) / 1000;
                time = time * (1000 + day + e - shoes.get(worn).gives) / 1000;
                time = Math.max(10, Math.min(29999, time));
                z = z * 1103515245 + 12345;
                runs.add(new Run(runs.size(), number, course, year, time, (z >>> 8) % 100 < eyes ? worn : -1));
            }
            return runners.size();
        }

        private List<Integer> gainedBy(int sort) {
            List<Integer> all = new ArrayList<>();
            for (int r = 0; r < runners.size(); r++) {
                List<Run> own = new ArrayList<>();
                for (Run q : runs) if (q.runner == r) own.add(q);
                own.sort(Comparator.comparingInt(q -> 1000 * q.year + q.number));
                for (int k = 0; k + 1 < own.size(); k++) {
                    Run a = own.get(k), b = own.get(k + 1);
                    boolean fits = sort == 0 ? isOld(a) && isNew(b) : sort == 1 ? isNew(a) && isOld(b)
                        : sort == 2 ? isOld(a) && isOld(b) : isNew(a) && isNew(b);
                    if (fits) all.add((level(a) - level(b)) * 1000 / level(a));
                }
            }
            return all;
        }

        private Integer mean(List<Integer> all) {
            long sum = 0;
            for (int v : all) sum += v;
            return all.isEmpty() ? null : (int) (sum / all.size());
        }

        int changed(int sort, int what) {
            if (sort < 0 || sort > 3 || what < 0 || what > 1) return VOID;
            List<Integer> all = gainedBy(sort);
            return what == 1 ? all.size() : all.isEmpty() ? VOID : mean(all);
        }

        private Integer lead(List<Run> olds, List<Run> news) {
            if (olds.isEmpty() || news.isEmpty()) return null;
            List<Integer> a = new ArrayList<>(), b = new ArrayList<>();
            for (Run r : olds) a.add(level(r));
            for (Run r : news) b.add(level(r));
            return (mean(a) - mean(b)) * 1000 / mean(a);
        }

        private Integer beside() {
            List<Integer> all = new ArrayList<>();
            for (int c = 0; c < 5; c++) {
                for (int y = 0; y < 100; y++) {
                    List<Run> olds = new ArrayList<>(), news = new ArrayList<>();
                    for (Run r : runs) if (r.course == c && r.year == y) {
                        if (isOld(r)) olds.add(r);
                        if (isNew(r)) news.add(r);
                    }
                    Integer v = lead(olds, news);
                    if (v != null) all.add(v);
                }
            }
            return mean(all);
        }

        int gain(int what) {
            Integer old = mean(gainedBy(2)), first = mean(gainedBy(0)), back = mean(gainedBy(1)), beside = beside();
            Integer since = old == null || first == null ? null : Integer.valueOf(first - old);
            TreeSet<Integer> all = new TreeSet<>();
            if (since != null) all.add(since);
            if (beside != null) all.add(beside);
            if (back != null) all.add(-back);
            Integer v = null;
            if (what == 0) v = since;
            if (what == 1) v = beside;
            if (what == 2 && since != null && beside != null) v = beside - since;
            if (what == 3 && !all.isEmpty()) v = all.first();
            if (what == 4 && !all.isEmpty()) v = all.last();
            return v == null ? VOID : v;
        }

        int unseen(int cy, int what) {
            int c = Math.floorDiv(cy, 100), y = Math.floorMod(cy, 100);
            if (c < 0 || c >= courses.size() || what < 0 || what > 1) return VOID;
            List<Run> hidden = new ArrayList<>();
            for (Run r : runs) if (r.course == c && r.year == y && !r.seen()) hidden.add(r);
            if (hidden.isEmpty() || hidden.size() > 12) return VOID;
            TreeSet<Integer> all = new TreeSet<>();
            for (int way = 0; way < 1 << hidden.size(); way++) {
                List<Run> olds = new ArrayList<>(), news = new ArrayList<>();
                for (Run r : runs) if (r.course == c && r.year == y) {
                    boolean asNew = r.seen() ? isNew(r) : (way >> hidden.indexOf(r) & 1) == 1;
                    (asNew ? news : olds).add(r);
                }
                Integer v = lead(olds, news);
                if (v != null) all.add(v);
            }
            return all.isEmpty() ? VOID : what == 0 ? all.first() : all.last();
        }

        int person(int runner) {
            if (runner < 0 || runner >= runners.size()) return VOID;
            List<Run> olds = new ArrayList<>(), news = new ArrayList<>();
            for (Run r : runs) if (r.runner == runner) {
                if (isOld(r)) olds.add(r);
                if (isNew(r)) news.add(r);
            }
            Integer v = lead(olds, news);
            return v == null ? VOID : v;
        }

        int shares(int sex, int v, int what) {
            if (sex < 0 || sex > 2 || what < 0 || what > 2) return BAD;
            int many = 0;
            for (int r = 0; r < runners.size(); r++) {
                int g = person(r);
                if (g == VOID || sex != 2 && runners.get(r).sex != sex) continue;
                if (what == 0 && g >= v || what == 1 && g <= 0 || what == 2) many++;
            }
            return many;
        }

        int led() {
            int best = NOT;
            for (int r = runners.size() - 1; r >= 0; r--) {
                if (person(r) != VOID && (best == NOT || person(r) >= person(best))) best = r;
            }
            return best;
        }

        int point(int breath, int time) {
            if (breath < 0 || breath > 99 || time < 0 || time > 99) return BAD;
            if (!points.isEmpty() && points.get(points.size() - 1)[0] >= breath) return BAD;
            if (points.size() == 6) return FULL;
            points.add(new int[] {breath, time});
            return points.size();
        }

        int belt(int runner, int breath) {
            if (runner < -1 || runner >= runners.size() || breath < 0 || breath > 99) return BAD;
            if (points.isEmpty()) return STATE;
            int t = -1;
            if (breath <= points.get(0)[0]) t = points.get(0)[1];
            if (breath >= points.get(points.size() - 1)[0]) t = points.get(points.size() - 1)[1];
            for (int i = 0; i + 1 < points.size(); i++) {
                int[] a = points.get(i), b = points.get(i + 1);
                if (breath >= a[0] && breath <= b[0]) {
                    int n = b[0] - a[0], k = breath - a[0];
                    t = (a[1] * (n - k) + b[1] * k) / n;
                }
            }
            return runner == -1 ? t : runners.get(runner).form * t / 1000;
        }

        private boolean falls(Run r, int thick) { return r.seen() && shoes.get(r.shoe).thick > thick; }

        int records(int course, int thick, int i) {
            if (course < 0 || course >= courses.size() || thick < 0 || thick > 99 || i < -1) return BAD;
            List<Run> all = new ArrayList<>();
            for (Run r : runs) if (r.course == course && !falls(r, thick)) all.add(r);
            all.sort(Comparator.comparingInt((Run r) -> r.year).thenComparingInt(r -> r.time).thenComparingInt(r -> r.number));
            List<Integer> records = new ArrayList<>();
            for (int k = 0; k < all.size(); k++) {
                boolean quicker = true;
                for (int j = 0; j < k; j++) quicker &= all.get(k).time < all.get(j).time;
                if (quicker) records.add(all.get(k).number);
            }
            return i == -1 ? records.size() : i < records.size() ? records.get(i) : BAD;
        }

        int best(int course, int year, int what) {
            if (course < 0 || course >= courses.size() || year < 0 || year > 99 || what < 0 || what > 1) return BAD;
            Run best = null;
            for (Run r : runs) if (r.course == course && (best == null || old(r) < old(best))) best = r;
            return best == null ? NOT : what == 0 ? best.number : year - best.year;
        }

        int rule(int thick) {
            if (thick < 0 || thick > 99) return BAD;
            int many = 0;
            for (Run r : runs) if (falls(r, thick)) many++;
            return many;
        }

        int dead(int shoe, int k) {
            if (shoe < 0 || shoe >= shoes.size() || k < 0 || k > 99) return VOID;
            return k >= 10 ? 0 : shoes.get(shoe).gives * (10 - k) / 10;
        }

        int needed(int shoe) {
            if (shoe < 0 || shoe >= shoes.size()) return BAD;
            List<Integer> all = gainedBy(2);
            if (all.isEmpty()) return NOT;
            long mean = mean(all), sum = 0, g = shoes.get(shoe).gives;
            for (int v : all) sum += (v - mean) * (v - mean);
            for (int n = 1; n <= 999; n++) if (g * g * n > 4 * (sum / all.size())) return n;
            return NOT;
        }

        int body(int kind) {
            if (kind < 0 || kind > 7) return BAD;
            if (bodies.size() == 50) return FULL;
            Gain[] kinds = {new Gain(), new ShoesGain(), new Trained(), new Given(), new Days(), new Believed(), new None(), new Grown()};
            kinds[kind].n = bodies.size();
            kinds[kind].kind = kind;
            bodies.add(kinds[kind]);
            return bodies.size() - 1;
        }

        int act(int body, int act, int x) {
            Gain.TRACE.clear();
            if (body < 0 || body >= bodies.size()) return 0;
            Gain g = bodies.get(body);
            return act == 0 ? g.gives(x) : act == 1 ? g.chooses(x) : act == 2 ? g.parts(x) : act == 3 ? g.tells(x) : 0;
        }

        int trace(int i) { return i < 0 || i >= Gain.TRACE.size() || i >= 24 ? BAD : Gain.TRACE.get(i); }

        int keep(int s, int body) {
            if (s < 0 || s > 5 || body < -1 || body >= bodies.size()) return BAD;
            shelf[s] = body == -1 ? null : bodies.get(body);
            return 1;
        }

        int row(int s, int sort, int n) {
            if (s < 0 || s > 5 || sort < 0 || sort > 4 || n > 60) return BAD;
            if (n < 0) return -14;
            shelf[s] = sort == 0 ? new byte[n] : sort == 1 ? new short[n] : sort == 2 ? new int[n] : sort == 3 ? new long[n] : new boolean[n];
            return 1;
        }

        private int refuses(int s, int i) {
            if (s < 0 || s > 5) return BAD;
            if (shelf[s] == null) return -11;
            if (shelf[s] instanceof Gain) return -12;
            return i < 0 || i >= java.lang.reflect.Array.getLength(shelf[s]) ? -13 : 0;
        }

        int put(int s, int i, long v) {
            if (refuses(s, i) != 0) return refuses(s, i);
            Object row = shelf[s];
            if (row instanceof byte[] r) r[i] = (byte) v;
            if (row instanceof short[] r) r[i] = (short) v;
            if (row instanceof int[] r) r[i] = (int) v;
            if (row instanceof long[] r) r[i] = v;
            if (row instanceof boolean[] r) r[i] = v != 0;
            return 1;
        }

        long element(int s, int i) {
            if (refuses(s, i) != 0) return Long.MIN_VALUE;
            if (shelf[s] instanceof boolean[] r) return r[i] ? 1 : 0;
            return java.lang.reflect.Array.getLong(shelf[s], i);
        }

        int shift(int s, int i, int o, int j, int n) {
            if (s < 0 || s > 5 || o < 0 || o > 5) return BAD;
            try {
                System.arraycopy(shelf[s], i, shelf[o], j, n);
                return n;
            } catch (NullPointerException e) {
                return -11;
            } catch (ArrayStoreException e) {
                return -12;
            } catch (IndexOutOfBoundsException e) {
                return -13;
            }
        }

        int taken(int s, int k) {
            if (s < 0 || s > 5 || k < 0 || k > 7) return BAD;
            Class<?>[] kinds = {Gain.class, ShoesGain.class, Trained.class, Given.class, Days.class, Believed.class, None.class, Grown.class};
            return shelf[s] == null ? -11 : kinds[k].isInstance(shelf[s]) ? ((Gain) shelf[s]).kind : -12;
        }

        int count(int what) {
            if (what < 0 || what > 9) return BAD;
            return new int[] {runners.size(), shoes.size(), courses.size(), runs.size(), tape.length(), laws.size(), points.size(),
                done.size(), bodies.size(), Gain.TRACE.size()}[what];
        }
    }

    // ---- gains by Java's own acts from above

    private interface Gives {
        int n();
        default int gives(int x) { Gain.TRACE.add(1); return x + n(); }
    }

    private interface Tells {
        int chooses(int x);
        int parts(int x);
        default int tells(int x) { Gain.TRACE.add(2); return chooses(x) - parts(1); }
    }

    private static class Gain implements Gives, Tells {
        static final List<Integer> TRACE = new ArrayList<>();
        int n, kind;
        public int n() { return n; }
        public int chooses(int x) { TRACE.add(10); return gives(x) * 2; }
        public int parts(int x) { TRACE.add(11); return x ^ n; }
    }

    private static class ShoesGain extends Gain {
        @Override public int gives(int x) { TRACE.add(20); return super.gives(x) + 3; }
    }

    private static class Trained extends Gain {
        @Override public int chooses(int x) { TRACE.add(30); return -super.chooses(x); }
    }

    private static class Given extends ShoesGain {
        @Override public int parts(int x) { TRACE.add(40); return super.parts(x) * 3; }
        @Override public int gives(int x) { TRACE.add(41); return super.gives(x + 1); }
    }

    private static class Days extends Gain {
        @Override public int parts(int x) { TRACE.add(50); return super.parts(x) - gives(2); }
    }

    private static class Believed extends Trained {
        @Override public int tells(int x) { TRACE.add(60); return super.tells(x) ^ 5; }
    }

    private static class None extends Gain {
        @Override public int gives(int x) { TRACE.add(70); return super.gives(x) * 2; }
    }

    private static class Grown extends Days {
        @Override public int chooses(int x) { TRACE.add(80); return super.chooses(x) + parts(2); }
        @Override public int tells(int x) { TRACE.add(81); return super.tells(x) - 1; }
    }

    // ---- laws by splitting the text, from the weakest sign to the strongest

    private static final class Text {
        private static final String NAMES = "ftsypngkz";

        /** Goes on: with a number or not and so many brackets closed it is a whole text. */
        static boolean goesOn(String text) {
            for (String with : new String[] {"", "0"}) {
                for (int k = 0; k <= 6; k++) {
                    if (isWhole(text + with + ")".repeat(k))) return true;
                }
            }
            return false;
        }

        static boolean isWhole(String text) {
            for (String line : text.split(";", -1)) {
                String[] parts = line.split("\\?", -1);
                if (parts.length > 2) return false;
                for (String part : parts) if (work(part, 0, null) == null) return false;
            }
            return true;
        }

        static int value(String text, int[] names) {
            for (String line : text.split(";", -1)) {
                String[] parts = line.split("\\?", -1);
                if (parts.length == 1) return work(parts[0], 0, names);
                if (work(parts[0], 0, names) != 0) return work(parts[1], 0, names);
            }
            return 0;
        }

        /** An E: its value, or null where it is none. */
        private static Integer work(String e, int open, int[] names) {
            for (String signs : new String[] {"|", "&", "<=>", "+-", "*/%"}) {
                List<Integer> at = places(e, signs);
                if (at == null) return null;
                if (at.isEmpty()) continue;
                if (signs.equals("<=>") && at.size() > 1) return null;
                Integer v = work(e.substring(0, at.get(0)), open, names);
                for (int k = 0; k < at.size() && v != null; k++) {
                    int end = k + 1 < at.size() ? at.get(k + 1) : e.length();
                    Integer w = work(e.substring(at.get(k) + 1, end), open, names);
                    v = w == null ? null : Integer.valueOf(two(v, e.charAt(at.get(k)), w));
                }
                return v;
            }
            return one(e, open, names);
        }

        /** Where signs of a strength stand outside of brackets; null: the brackets are not paired. */
        private static List<Integer> places(String e, String signs) {
            List<Integer> at = new ArrayList<>();
            int deep = 0;
            for (int k = 0; k < e.length(); k++) {
                char c = e.charAt(k);
                if (c == '(') deep++;
                if (c == ')' && --deep < 0) return null;
                boolean ahead = c == '-' && (k == 0 || "(!-+*/%<=>&|".indexOf(e.charAt(k - 1)) >= 0);
                if (deep == 0 && signs.indexOf(c) >= 0 && !ahead) at.add(k);
            }
            return deep == 0 ? at : null;
        }

        private static int two(int v, char sign, int w) {
            switch (sign) {
                case '|': return v != 0 | w != 0 ? 1 : 0;
                case '&': return v != 0 & w != 0 ? 1 : 0;
                case '<': return v < w ? 1 : 0;
                case '=': return v == w ? 1 : 0;
                case '>': return v > w ? 1 : 0;
                case '+': return v + w;
                case '-': return v - w;
                case '*': return v * w;
                case '/': return w == 0 ? 0 : v / w;
                default: return w == 0 ? 0 : v % w;
            }
        }

        private static Integer one(String o, int open, int[] names) {
            if (o.matches("[0-9]{1,4}")) return Integer.valueOf(o);
            if (o.length() == 1 && NAMES.contains(o)) return names == null ? 0 : names[o.charAt(0)];
            if (o.isEmpty() || open == 6) return null;
            if (o.charAt(0) == '!' || o.charAt(0) == '-') {
                Integer v = one(o.substring(1), open + 1, names);
                return v == null ? null : Integer.valueOf(o.charAt(0) == '-' ? -v : v == 0 ? 1 : 0);
            }
            if (o.charAt(0) == '(' && o.charAt(o.length() - 1) == ')') return work(o.substring(1, o.length() - 1), open + 1, names);
            return null;
        }
    }
}
