/**
 * Runners, shoes with much foam, and what three in the hundred may owe to them.
 * The numbered promises that it keeps stand in ../shared/DOC.md.
 */
public final class ThreeHundred {
    public static final int BAD = -1, NOT = -2, FULL = -3, BIG = -4, STATE = -5, VOID = -2000000000;

    private static final int NOTHING_THERE = -11, OTHER_KIND = -12, NO_SUCH_PLACE = -13, BELOW_ZERO = -14;
    private static final int MOST_RUNNERS = 20, MOST_SHOES = 6, MOST_COURSES = 5, MOST_RUNS = 120;
    private static final int MOST_BYTES = 120, MOST_LAWS = 4, MOST_POINTS = 6, MOST_CHANGES = 40;
    private static final int MOST_BODIES = 50, MOST_TRACED = 24, MOST_SHELVES = 6, MOST_ELEMENTS = 60;
    private static final int MOST_HIDDEN = 12, MOST_NEEDED = 999;
    private static final int LEAST_FORM = 600, LEAST_TIME = 10, MOST_TIME = 29999, MOST_YEAR = 99, MOST_THICK = 99;
    private static final int UNSEEN = -1, OLD_SHOE = 0;
    private static final int TO_NEW = 0, TO_OLD = 1, OLD_BOTH = 2, NEW_BOTH = 3, SORTS = 4;

    private final Runners runners = new Runners();
    private final Shoes shoes = new Shoes();
    private final Courses courses = new Courses();
    private final Runs runs = new Runs(shoes, courses);
    private final Changes changes = new Changes(runs, shoes);
    private final Laws laws = new Laws();
    private final Beside beside = new Beside(runs);
    private final Belt belt = new Belt();
    private final Acts acts = new Acts();
    private final Shelves shelves = new Shelves();
    private int eyes = 100;

    public ThreeHundred() {
    }

    // ---- runners, shoes, courses, runs

    public int runner(int form, int td) {
        if (!within(form, LEAST_FORM, 9999) || !within(td, 0, 100999) || td % 10 > 1) {
            return BAD;
        }
        return runners.come(form, td / 1000 - 50, td / 10 % 100, td % 10);
    }

    public int shoe(int thick, int gives, int made) {
        if (!within(thick, 1, MOST_THICK) || !within(gives, -99, 99) || !within(made, 0, MOST_YEAR)) {
            return BAD;
        }
        return shoes.come(thick, gives, made);
    }

    public int course(int hard) {
        if (!within(hard, 500, 2000)) {
            return BAD;
        }
        return courses.come(hard);
    }

    public int ran(int rc, int ys, int time) {
        if (rc < 0 || ys < 0 || !isRun(rc / 100, rc % 100, ys / 10, time, ys % 10 - 1)) {
            return BAD;
        }
        return runs.come(rc / 100, rc % 100, ys / 10, time, ys % 10 - 1);
    }

    public int runs(int shelf, int i, int n) {
        if (!shelves.has(shelf) || !within(n, 1, 12)) {
            return BAD;
        }
        if (shelves.holds[shelf] == Shelves.NOTHING) {
            return 0;
        }
        if (shelves.holds[shelf] != Shelves.INTS) {
            return OTHER_KIND;
        }
        int came = 0;
        while (came < n && runFromRow(shelf, i + 5L * came)) {
            came++;
        }
        return came;
    }

    private boolean runFromRow(int shelf, long from) {
        if (from < 0 || from + 5 > shelves.lengths[shelf]) {
            return false;
        }
        long[] row = shelves.elements[shelf];
        int i = (int) from;
        int runner = (int) row[i], course = (int) row[i + 1], year = (int) row[i + 2];
        int time = (int) row[i + 3], shoe = (int) row[i + 4];
        return isRun(runner, course, year, time, shoe) && runs.come(runner, course, year, time, shoe) != FULL;
    }

    private boolean isRun(int runner, int course, int year, int time, int shoe) {
        return runners.has(runner) && courses.has(course) && within(year, 0, MOST_YEAR)
            && within(time, LEAST_TIME, MOST_TIME) && (shoe == UNSEEN || shoes.has(shoe));
    }

    public int of(int run, int what) {
        if (!runs.has(run)) {
            return VOID;
        }
        switch (what) {
            case 0: return runs.runners[run];
            case 1: return runs.courses[run];
            case 2: return runs.years[run];
            case 3: return runs.times[run];
            case 4: return runs.shoes[run];
            case 5: return runs.level(run);
            case 6: return runs.oldMinutes(run);
            case 7: return runs.whichInShoe(run);
            default: return VOID;
        }
    }

    public int mend(int number, int what, int v) {
        if (!isMending(number, what, v)) {
            return VOID;
        }
        int before = changes.current(number, what);
        if (v != before) {
            changes.come(number, what, before, v);
        }
        return before;
    }

    private boolean isMending(int number, int what, int v) {
        switch (what) {
            case Changes.TIME: return runs.has(number) && within(v, LEAST_TIME, MOST_TIME);
            case Changes.SHOE: return runs.has(number) && (v == UNSEEN || shoes.has(v));
            case Changes.GIVES: return shoes.has(number) && number != OLD_SHOE && within(v, -99, 99);
            default: return false;
        }
    }

    // ---- laws, races

    public int feed(int n, int v) {
        if (!within(n, 1, 4)) {
            return BAD;
        }
        return laws.take(n, v);
    }

    public int law() {
        return laws.come();
    }

    public int eyes(int v) {
        if (!within(v, 0, 100)) {
            return BAD;
        }
        int before = eyes;
        eyes = v;
        return before;
    }

    public int race(int lc, int ys, int day, int seed) {
        int law = lc / 10, course = lc % 10, year = ys / 10, shoe = ys % 10;
        if (lc < 0 || ys < 0 || law >= laws.size || !courses.has(course) || !within(year, 0, MOST_YEAR)) {
            return BAD;
        }
        if (!shoes.has(shoe) || shoes.made[shoe] > year || !within(day, -50, 50)) {
            return BAD;
        }
        if (runs.size + runners.size > MOST_RUNS) {
            return STATE;
        }
        int z = seed;
        for (int runner = 0; runner < runners.size; runner++) {
            z = drawn(z);
            int worn = wears(law, runner, year, shoe, part(z, 100)) ? shoe : OLD_SHOE;
            z = drawn(z);
            int luck = day + part(z, 21) - 10 - shoes.gives[worn];
            int time = timeOf(runner, course, year, luck);
            z = drawn(z);
            runs.come(runner, course, year, time, part(z, 100) < eyes ? worn : UNSEEN);
        }
        return runners.size;
    }

    private static int drawn(int z) {
        return z * 1103515245 + 12345;
    }

    private static int part(int z, int n) {
        return n == 0 ? 0 : (z >>> 8) % n;
    }

    private boolean wears(int law, int runner, int year, int shoe, int draw) {
        int[] named = laws.named;
        named[Laws.FORM] = runners.formThen(runner, year) / 10;
        named[Laws.TRAINED] = runners.trained[runner];
        named[Laws.SEX] = runners.sex[runner];
        named[Laws.YEAR] = year;
        named[Laws.AHEAD] = runners.ahead(runner, year);
        named[Laws.RUNNERS] = runners.size;
        named[Laws.GIVES] = shoes.gives[shoe];
        named[Laws.THICK] = shoes.thick[shoe];
        named[Laws.DRAW] = draw;
        return laws.says(law) != 0;
    }

    private int timeOf(int runner, int course, int year, int luck) {
        int flat = runners.formThen(runner, year) * courses.hard[course] / 1000;
        return Math.max(LEAST_TIME, Math.min(MOST_TIME, flat * (1000 + luck) / 1000));
    }

    // ---- changed, beside, bounds

    public int changed(int sort, int what) {
        if (!within(sort, 0, SORTS - 1) || !within(what, 0, 1)) {
            return VOID;
        }
        beside.pairUp();
        return what == 0 ? beside.mean(sort) : beside.pairs[sort];
    }

    public int gain(int what) {
        beside.pairUp();
        switch (what) {
            case 0: return beside.since();
            case 1: return beside.inRaces();
            case 2: return less(beside.inRaces(), beside.since());
            case 3: return beside.bound(false);
            case 4: return beside.bound(true);
            default: return VOID;
        }
    }

    public int unseen(int cy, int what) {
        if (cy < 0 || !courses.has(cy / 100) || !within(what, 0, 1)) {
            return VOID;
        }
        return beside.canBe(cy / 100, cy % 100, what == 1);
    }

    public int person(int runner) {
        return runners.has(runner) ? beside.ofRunner(runner) : VOID;
    }

    public int shares(int sex, int v, int what) {
        if (!within(sex, 0, 2) || !within(what, 0, 2)) {
            return BAD;
        }
        int many = 0;
        for (int runner = 0; runner < runners.size; runner++) {
            if ((sex == 2 || runners.sex[runner] == sex) && isShare(beside.ofRunner(runner), v, what)) {
                many++;
            }
        }
        return many;
    }

    private static boolean isShare(int gained, int v, int what) {
        if (gained == VOID) {
            return false;
        }
        return what == 0 ? gained >= v : what == 2 || gained <= 0;
    }

    public int led() {
        int leader = NOT, most = VOID;
        for (int runner = 0; runner < runners.size; runner++) {
            int gained = beside.ofRunner(runner);
            if (gained > most) {
                most = gained;
                leader = runner;
            }
        }
        return leader;
    }

    // ---- the belt, records, rules

    public int point(int breath, int time) {
        if (!within(breath, 0, 99) || !within(time, 0, 99) || !belt.rises(breath)) {
            return BAD;
        }
        return belt.come(breath, time);
    }

    public int belt(int runner, int breath) {
        if (!(runner == -1 || runners.has(runner)) || !within(breath, 0, 99)) {
            return BAD;
        }
        if (belt.size == 0) {
            return STATE;
        }
        int thousandths = belt.at(breath);
        return runner == -1 ? thousandths : runners.form[runner] * thousandths / 1000;
    }

    public int records(int course, int thick, int i) {
        if (!courses.has(course) || !within(thick, 0, MOST_THICK) || i < -1) {
            return BAD;
        }
        return runs.recordOf(course, thick, i);
    }

    public int best(int course, int year, int what) {
        if (!courses.has(course) || !within(year, 0, MOST_YEAR) || !within(what, 0, 1)) {
            return BAD;
        }
        int first = runs.bestOf(course);
        if (!runs.has(first)) {
            return NOT;
        }
        return what == 0 ? first : year - runs.years[first];
    }

    public int rule(int thick) {
        return within(thick, 0, MOST_THICK) ? runs.fallenBy(thick) : BAD;
    }

    public int dead(int shoe, int k) {
        if (!shoes.has(shoe) || !within(k, 0, 99)) {
            return VOID;
        }
        return k >= 10 ? 0 : shoes.gives[shoe] * (10 - k) / 10;
    }

    public int needed(int shoe) {
        if (!shoes.has(shoe)) {
            return BAD;
        }
        long gives = shoes.gives[shoe];
        beside.pairUp();
        if (gives == 0 || beside.pairs[OLD_BOTH] == 0) {
            return NOT;
        }
        long many = 4 * beside.spread() / (gives * gives) + 1;
        return many > MOST_NEEDED ? NOT : (int) many;
    }

    public int undo() {
        return changes.back();
    }

    public int redo() {
        return changes.again();
    }

    // ---- acts, shelves

    public int body(int kind) {
        if (!within(kind, 0, Acts.KINDS - 1)) {
            return BAD;
        }
        return acts.come(kind);
    }

    public int act(int body, int act, int x) {
        acts.ran = 0;
        if (!acts.has(body) || !within(act, 0, Acts.ACTS - 1)) {
            return 0;
        }
        return acts.acted(body, act, x);
    }

    public int trace(int i) {
        return within(i, 0, Math.min(acts.ran, MOST_TRACED) - 1) ? acts.traced[i] : BAD;
    }

    public int keep(int shelf, int body) {
        if (!shelves.has(shelf) || !(body == -1 || acts.has(body))) {
            return BAD;
        }
        shelves.hold(shelf, body);
        return 1;
    }

    public int row(int shelf, int sort, int n) {
        if (!shelves.has(shelf) || !within(sort, 0, Shelves.BOOLEANS) || n > MOST_ELEMENTS) {
            return BAD;
        }
        if (n < 0) {
            return BELOW_ZERO;
        }
        shelves.holdRow(shelf, sort, n);
        return 1;
    }

    public int put(int shelf, int i, long v) {
        int refused = shelves.refuses(shelf, i);
        if (refused != 0) {
            return refused;
        }
        shelves.elements[shelf][i] = Shelves.lowest(shelves.holds[shelf], v);
        return 1;
    }

    public long element(int shelf, int i) {
        return shelves.refuses(shelf, i) != 0 ? Long.MIN_VALUE : shelves.elements[shelf][i];
    }

    public int shift(int shelf, int i, int other, int j, int n) {
        if (!shelves.has(shelf) || !shelves.has(other)) {
            return BAD;
        }
        int from = shelves.holds[shelf], to = shelves.holds[other];
        if (from == Shelves.NOTHING || to == Shelves.NOTHING) {
            return NOTHING_THERE;
        }
        if (from == Shelves.BODY || from != to) {
            return OTHER_KIND;
        }
        if (!shelves.reaches(shelf, i, n) || !shelves.reaches(other, j, n)) {
            return NO_SUCH_PLACE;
        }
        System.arraycopy(shelves.elements[shelf], i, shelves.elements[other], j, n);
        return n;
    }

    public int taken(int shelf, int k) {
        if (!shelves.has(shelf) || !within(k, 0, Acts.KINDS - 1)) {
            return BAD;
        }
        if (shelves.holds[shelf] == Shelves.NOTHING) {
            return NOTHING_THERE;
        }
        int body = shelves.bodies[shelf];
        if (shelves.holds[shelf] != Shelves.BODY || !acts.has(body) || !Acts.isUnder(acts.kinds[body], k)) {
            return OTHER_KIND;
        }
        return acts.kinds[body];
    }

    public int count(int what) {
        switch (what) {
            case 0: return runners.size;
            case 1: return shoes.size;
            case 2: return courses.size;
            case 3: return runs.size;
            case 4: return laws.fed;
            case 5: return laws.size;
            case 6: return belt.size;
            case 7: return changes.done;
            case 8: return acts.size;
            case 9: return acts.ran;
            default: return BAD;
        }
    }

    private static boolean within(int v, int least, int most) {
        return v >= least && v <= most;
    }

    private static int cut(long a, long b) {
        return b == 0 ? 0 : (int) (a / b);
    }

    private static int less(int a, int b) {
        return a == VOID || b == VOID ? VOID : a - b;
    }

    private static final class Runners {
        final int[] form = new int[MOST_RUNNERS];
        final int[] drift = new int[MOST_RUNNERS];
        final int[] trained = new int[MOST_RUNNERS];
        final int[] sex = new int[MOST_RUNNERS];
        int size;

        boolean has(int runner) {
            return runner >= 0 && runner < size;
        }

        int come(int itsForm, int itsDrift, int itsTraining, int itsSex) {
            if (size >= MOST_RUNNERS) {
                return FULL;
            }
            form[size] = itsForm;
            drift[size] = itsDrift;
            trained[size] = itsTraining;
            sex[size] = itsSex;
            return size++;
        }

        int formThen(int runner, int year) {
            return Math.max(LEAST_FORM, form[runner] + drift[runner] * year);
        }

        int ahead(int runner, int year) {
            int many = 0, own = formThen(runner, year);
            for (int other = 0; other < size; other++) {
                if (formThen(other, year) < own) {
                    many++;
                }
            }
            return many;
        }
    }

    private static final class Shoes {
        final int[] thick = new int[MOST_SHOES];
        final int[] gives = new int[MOST_SHOES];
        final int[] made = new int[MOST_SHOES];
        int size;

        Shoes() {
            thick[OLD_SHOE] = 20;
            size = 1;
        }

        boolean has(int shoe) {
            return shoe >= 0 && shoe < size;
        }

        int come(int itsThickness, int itGives, int itsYear) {
            if (size >= MOST_SHOES) {
                return FULL;
            }
            thick[size] = itsThickness;
            gives[size] = itGives;
            made[size] = itsYear;
            return size++;
        }
    }

    private static final class Courses {
        final int[] hard = new int[MOST_COURSES];
        int size;

        boolean has(int course) {
            return course >= 0 && course < size;
        }

        int come(int itsHardness) {
            if (size >= MOST_COURSES) {
                return FULL;
            }
            hard[size] = itsHardness;
            return size++;
        }
    }

    private static final class Runs {
        private final Shoes allShoes;
        private final Courses allCourses;
        final int[] runners = new int[MOST_RUNS];
        final int[] courses = new int[MOST_RUNS];
        final int[] years = new int[MOST_RUNS];
        final int[] times = new int[MOST_RUNS];
        final int[] shoes = new int[MOST_RUNS];
        // Nothing mends a RUNNER, COURSE or YEAR, so both orders are kept as the runs come.
        final int[] byRunner = new int[MOST_RUNS];
        final int[] byRace = new int[MOST_RUNS];
        private final int[] line = new int[MOST_RUNS];
        int size;

        Runs(Shoes allShoes, Courses allCourses) {
            this.allShoes = allShoes;
            this.allCourses = allCourses;
        }

        boolean has(int run) {
            return run >= 0 && run < size;
        }

        int come(int runner, int course, int year, int time, int shoe) {
            if (size >= MOST_RUNS) {
                return FULL;
            }
            int run = size;
            runners[run] = runner;
            courses[run] = course;
            years[run] = year;
            times[run] = time;
            shoes[run] = shoe;
            enter(byRunner, runners, run);
            enter(byRace, courses, run);
            size++;
            return run;
        }

        private void enter(int[] order, int[] owners, int run) {
            int k = run;
            while (k > 0 && isBehind(order[k - 1], run, owners)) {
                order[k] = order[k - 1];
                k--;
            }
            order[k] = run;
        }

        private boolean isBehind(int run, int other, int[] owners) {
            if (owners[run] != owners[other]) {
                return owners[run] > owners[other];
            }
            return years[run] > years[other];
        }

        boolean isSeen(int run) {
            return allShoes.has(shoes[run]);
        }

        boolean isNew(int run) {
            return isSeen(run) && allShoes.gives[shoes[run]] > 0;
        }

        boolean isOfRace(int run, int course, int year) {
            return courses[run] == course && years[run] == year;
        }

        int level(int run) {
            return cut(times[run] * 1000L, allCourses.hard[courses[run]]);
        }

        int oldMinutes(int run) {
            int gives = isSeen(run) ? allShoes.gives[shoes[run]] : 0;
            return cut(times[run] * 1000L, 1000 - gives);
        }

        int whichInShoe(int run) {
            if (!isSeen(run)) {
                return UNSEEN;
            }
            int which = 0;
            for (int k = 0; k < size && byRunner[k] != run; k++) {
                int other = byRunner[k];
                if (runners[other] == runners[run] && shoes[other] == shoes[run]) {
                    which++;
                }
            }
            return which;
        }

        private boolean falls(int run, int thick) {
            return isSeen(run) && allShoes.thick[shoes[run]] > thick;
        }

        int fallenBy(int thick) {
            int many = 0;
            for (int run = 0; run < size; run++) {
                if (falls(run, thick)) {
                    many++;
                }
            }
            return many;
        }

        int recordOf(int course, int thick, int i) {
            int length = lineUp(course, thick), quickest = MOST_TIME + 1, many = 0;
            for (int k = 0; k < length; k++) {
                int run = line[k];
                if (times[run] < quickest) {
                    if (many == i) {
                        return run;
                    }
                    quickest = times[run];
                    many++;
                }
            }
            return i == -1 ? many : BAD;
        }

        private int lineUp(int course, int thick) {
            int length = 0;
            for (int k = 0; k < size; k++) {
                int run = byRace[k];
                if (courses[run] == course && !falls(run, thick)) {
                    int at = length;
                    while (at > 0 && isSlower(line[at - 1], run)) {
                        line[at] = line[at - 1];
                        at--;
                    }
                    line[at] = run;
                    length++;
                }
            }
            return length;
        }

        private boolean isSlower(int run, int other) {
            return years[run] == years[other] && times[run] > times[other];
        }

        int bestOf(int course) {
            int best = NOT;
            for (int run = 0; run < size; run++) {
                if (courses[run] == course && (best == NOT || oldMinutes(run) < oldMinutes(best))) {
                    best = run;
                }
            }
            return best;
        }
    }

    private static final class Changes {
        static final int TIME = 0, SHOE = 1, GIVES = 2;
        private final Runs allRuns;
        private final Shoes allShoes;
        private final int[] numbers = new int[MOST_CHANGES];
        private final int[] whats = new int[MOST_CHANGES];
        private final int[] befores = new int[MOST_CHANGES];
        private final int[] afters = new int[MOST_CHANGES];
        int done;
        private int size;

        Changes(Runs allRuns, Shoes allShoes) {
            this.allRuns = allRuns;
            this.allShoes = allShoes;
        }

        private int[] table(int what) {
            return what == TIME ? allRuns.times : what == SHOE ? allRuns.shoes : allShoes.gives;
        }

        int current(int number, int what) {
            return table(what)[number];
        }

        void come(int number, int what, int before, int after) {
            if (done >= MOST_CHANGES) {
                forgetFirst();
            }
            numbers[done] = number;
            whats[done] = what;
            befores[done] = before;
            afters[done] = after;
            table(what)[number] = after;
            done++;
            size = done;
        }

        private void forgetFirst() {
            done = MOST_CHANGES - 1;
            System.arraycopy(numbers, 1, numbers, 0, done);
            System.arraycopy(whats, 1, whats, 0, done);
            System.arraycopy(befores, 1, befores, 0, done);
            System.arraycopy(afters, 1, afters, 0, done);
        }

        int back() {
            if (done <= 0) {
                return STATE;
            }
            done--;
            table(whats[done])[numbers[done]] = befores[done];
            return done;
        }

        int again() {
            if (done >= size) {
                return STATE;
            }
            table(whats[done])[numbers[done]] = afters[done];
            done++;
            return size - done;
        }
    }

    /** Texts are worked out as they are read, so a law is kept as its bytes alone. */
    private static final class Laws {
        static final int FORM = 0, TRAINED = 1, SEX = 2, YEAR = 3, AHEAD = 4, RUNNERS = 5, GIVES = 6, THICK = 7, DRAW = 8;
        private static final String NAMES = "ftsypngkz";
        private static final int MOST_OPEN = 6, MOST_DIGITS = 4, NO_BYTE = -1, NO_FAULT = -1;
        final int[] named = new int[9];
        private final byte[] tape = new byte[MOST_BYTES];
        private final byte[][] texts = new byte[MOST_LAWS][MOST_BYTES];
        private final int[] lengths = new int[MOST_LAWS];
        int fed;
        int size;
        private byte[] text = tape;
        private int end;
        private int at;
        private int fault;

        int take(int n, int v) {
            if (fed + n > MOST_BYTES) {
                return FULL;
            }
            for (int k = 0; k < n; k++) {
                tape[fed] = (byte) (v >>> 8 * k);
                fed++;
            }
            return fed;
        }

        int come() {
            if (size >= MOST_LAWS) {
                return FULL;
            }
            int length = fed;
            fed = 0;
            read(tape, length);
            if (fault != NO_FAULT) {
                return -100 - fault;
            }
            System.arraycopy(tape, 0, texts[size], 0, length);
            lengths[size] = length;
            return size++;
        }

        int says(int law) {
            return read(texts[law], lengths[law]);
        }

        private int read(byte[] bytes, int length) {
            text = bytes;
            end = length;
            at = 0;
            fault = NO_FAULT;
            int value = 0;
            boolean found = false, more = true;
            for (int k = 0; k <= MOST_BYTES && more; k++) {
                int first = either(0);
                boolean isAsked = passes('?');
                int then = isAsked ? either(0) : first;
                if (!found && (!isAsked || first != 0)) {
                    found = true;
                    value = then;
                }
                more = passes(';');
            }
            if (at < end) {
                fail();
            }
            return value;
        }

        // After a fault no byte is shown any more, so that all reading ends.
        private int next() {
            return fault != NO_FAULT || at >= end ? NO_BYTE : text[at] & 255;
        }

        private boolean passes(int sign) {
            if (next() != sign) {
                return false;
            }
            at++;
            return true;
        }

        private void fail() {
            if (fault == NO_FAULT) {
                fault = at;
            }
        }

        private int either(int open) {
            int v = both(open);
            for (int k = 0; k < MOST_BYTES && passes('|'); k++) {
                int w = both(open);
                v = v != 0 || w != 0 ? 1 : 0;
            }
            return v;
        }

        private int both(int open) {
            int v = compared(open);
            for (int k = 0; k < MOST_BYTES && passes('&'); k++) {
                int w = compared(open);
                v = v != 0 && w != 0 ? 1 : 0;
            }
            return v;
        }

        private int compared(int open) {
            int v = sum(open);
            if (passes('<')) {
                return v < sum(open) ? 1 : 0;
            }
            if (passes('=')) {
                return v == sum(open) ? 1 : 0;
            }
            if (passes('>')) {
                return v > sum(open) ? 1 : 0;
            }
            return v;
        }

        private int sum(int open) {
            int v = product(open);
            for (int k = 0; k < MOST_BYTES; k++) {
                if (passes('+')) {
                    v += product(open);
                } else if (passes('-')) {
                    v -= product(open);
                } else {
                    break;
                }
            }
            return v;
        }

        private int product(int open) {
            int v = single(open);
            for (int k = 0; k < MOST_BYTES; k++) {
                if (passes('*')) {
                    v *= single(open);
                } else if (passes('/')) {
                    int w = single(open);
                    v = w == 0 ? 0 : v / w;
                } else if (passes('%')) {
                    int w = single(open);
                    v = w == 0 ? 0 : v % w;
                } else {
                    break;
                }
            }
            return v;
        }

        private int single(int open) {
            int c = next();
            if (isDigit(c)) {
                return number();
            }
            int name = c == NO_BYTE ? -1 : NAMES.indexOf((char) c);
            if (name >= 0 && name < named.length) {
                at++;
                return named[name];
            }
            if (open < MOST_OPEN && passes('(')) {
                int v = either(open + 1);
                if (!passes(')')) {
                    fail();
                }
                return v;
            }
            if (open < MOST_OPEN && passes('!')) {
                return single(open + 1) == 0 ? 1 : 0;
            }
            if (open < MOST_OPEN && passes('-')) {
                return -single(open + 1);
            }
            fail();
            return 0;
        }

        private static boolean isDigit(int c) {
            return c >= '0' && c <= '9';
        }

        private int number() {
            int v = 0;
            for (int k = 0; k < MOST_DIGITS && isDigit(next()); k++) {
                v = 10 * v + next() - '0';
                at++;
            }
            return v;
        }
    }

    private static final class Tally {
        private long oldSum;
        private long newSum;
        private int olds;
        private int news;

        void clear() {
            oldSum = 0;
            newSum = 0;
            olds = 0;
            news = 0;
        }

        void add(int level, boolean isNew) {
            if (isNew) {
                newSum += level;
                news++;
            } else {
                oldSum += level;
                olds++;
            }
        }

        void turnNew(int level) {
            oldSum -= level;
            olds--;
            add(level, true);
        }

        int gained() {
            if (olds <= 0 || news <= 0) {
                return VOID;
            }
            long oldMean = oldSum / olds, newMean = newSum / news;
            return cut((oldMean - newMean) * 1000, oldMean);
        }
    }

    private static final class Beside {
        private final Runs runs;
        private final Tally tally = new Tally();
        private final long[] sums = new long[SORTS];
        final int[] pairs = new int[SORTS];
        private final int[] hidden = new int[MOST_HIDDEN];

        Beside(Runs runs) {
            this.runs = runs;
        }

        private boolean isPair(int first, int second) {
            return runs.runners[first] == runs.runners[second] && runs.isSeen(first) && runs.isSeen(second);
        }

        private int sortOf(int first, int second) {
            if (runs.isNew(first)) {
                return runs.isNew(second) ? NEW_BOTH : TO_OLD;
            }
            return runs.isNew(second) ? TO_NEW : OLD_BOTH;
        }

        private int gained(int first, int second) {
            long level = runs.level(first);
            return cut((level - runs.level(second)) * 1000, level);
        }

        void pairUp() {
            for (int sort = 0; sort < SORTS; sort++) {
                sums[sort] = 0;
                pairs[sort] = 0;
            }
            for (int k = 1; k < runs.size; k++) {
                int first = runs.byRunner[k - 1], second = runs.byRunner[k];
                if (isPair(first, second)) {
                    int sort = sortOf(first, second);
                    sums[sort] += gained(first, second);
                    pairs[sort]++;
                }
            }
        }

        int mean(int sort) {
            return pairs[sort] == 0 ? VOID : cut(sums[sort], pairs[sort]);
        }

        long spread() {
            long mean = mean(OLD_BOTH), squares = 0;
            for (int k = 1; k < runs.size; k++) {
                int first = runs.byRunner[k - 1], second = runs.byRunner[k];
                if (isPair(first, second) && sortOf(first, second) == OLD_BOTH) {
                    long apart = gained(first, second) - mean;
                    squares += apart * apart;
                }
            }
            return pairs[OLD_BOTH] == 0 ? 0 : squares / pairs[OLD_BOTH];
        }

        int since() {
            return less(mean(TO_NEW), mean(OLD_BOTH));
        }

        int inRaces() {
            long sum = 0;
            int races = 0;
            tally.clear();
            for (int k = 0; k < runs.size; k++) {
                int run = runs.byRace[k];
                addSeen(run);
                if (isLastOfRace(k)) {
                    int gained = tally.gained();
                    sum += gained == VOID ? 0 : gained;
                    races += gained == VOID ? 0 : 1;
                    tally.clear();
                }
            }
            return races == 0 ? VOID : cut(sum, races);
        }

        private void addSeen(int run) {
            if (runs.isSeen(run)) {
                tally.add(runs.level(run), runs.isNew(run));
            }
        }

        private boolean isLastOfRace(int k) {
            if (k + 1 >= runs.size) {
                return true;
            }
            int run = runs.byRace[k], next = runs.byRace[k + 1];
            return !runs.isOfRace(next, runs.courses[run], runs.years[run]);
        }

        int bound(boolean isGreatest) {
            int found = further(VOID, since(), isGreatest);
            found = further(found, inRaces(), isGreatest);
            return further(found, less(0, mean(TO_OLD)), isGreatest);
        }

        private static int further(int found, int v, boolean isGreatest) {
            if (found == VOID || v == VOID) {
                return found == VOID ? v : found;
            }
            return isGreatest ? Math.max(found, v) : Math.min(found, v);
        }

        int ofRunner(int runner) {
            tally.clear();
            for (int run = 0; run < runs.size; run++) {
                if (runs.runners[run] == runner) {
                    addSeen(run);
                }
            }
            return tally.gained();
        }

        int canBe(int course, int year, boolean isGreatest) {
            int many = 0;
            tally.clear();
            for (int run = 0; run < runs.size; run++) {
                if (!runs.isOfRace(run, course, year)) {
                    continue;
                }
                addSeen(run);
                if (!runs.isSeen(run)) {
                    if (many >= MOST_HIDDEN) {
                        return VOID;
                    }
                    hide(many, runs.level(run));
                    many++;
                }
            }
            return many == 0 ? VOID : furthest(many, isGreatest);
        }

        // The levels stand rising, for furthest.
        private void hide(int many, int level) {
            int k = many;
            while (k > 0 && hidden[k - 1] > level) {
                hidden[k] = hidden[k - 1];
                k--;
            }
            hidden[k] = level;
        }

        // With so many said NEW, what they gain is greatest when they are the lowest levels and
        // least when they are the highest: one way for each number of them is enough.
        private int furthest(int many, boolean isGreatest) {
            for (int k = 0; k < many; k++) {
                tally.add(hidden[k], false);
            }
            int found = tally.gained();
            for (int k = 0; k < many; k++) {
                tally.turnNew(hidden[isGreatest ? k : many - 1 - k]);
                found = further(found, tally.gained(), isGreatest);
            }
            return found;
        }
    }

    private static final class Belt {
        private final int[] breaths = new int[MOST_POINTS];
        private final int[] times = new int[MOST_POINTS];
        int size;

        boolean rises(int breath) {
            return size == 0 || breath > breaths[size - 1];
        }

        int come(int breath, int time) {
            if (size >= MOST_POINTS) {
                return FULL;
            }
            breaths[size] = breath;
            times[size] = time;
            size++;
            return size;
        }

        int at(int breath) {
            int before = 0;
            for (int k = 0; k < size; k++) {
                if (breath <= breaths[k]) {
                    return k == 0 ? times[0] : between(k, breath - breaths[k - 1]);
                }
                before = times[k];
            }
            return before;
        }

        private int between(int k, int part) {
            int all = breaths[k] - breaths[k - 1];
            return cut(times[k - 1] * (all - part) + times[k] * part, all);
        }
    }

    private static final class Acts {
        static final int KINDS = 8, ACTS = 4;
        private static final int CALLS_GIVES = 0, CALLS_CHOOSES = 1, CALLS_PARTS = 2, CALLS_TELLS = 3;
        private static final int MOST_DEEP = 30;
        private static final int[] ABOVE = {-1, 0, 0, 1, 0, 2, 0, 4};
        // By KINDS, four acts each: the number of the KIND's own body of an act, or 0.
        private static final int[] OWN = {
            1, 10, 11, 2,
            20, 0, 0, 0,
            0, 30, 0, 0,
            41, 0, 40, 0,
            0, 0, 50, 0,
            0, 0, 0, 60,
            70, 0, 0, 0,
            0, 80, 0, 81
        };
        final int[] kinds = new int[MOST_BODIES];
        final int[] traced = new int[MOST_TRACED];
        int size;
        int ran;

        boolean has(int body) {
            return body >= 0 && body < size;
        }

        int come(int kind) {
            if (size >= MOST_BODIES) {
                return FULL;
            }
            kinds[size] = kind;
            return size++;
        }

        static boolean isUnder(int kind, int top) {
            int k = kind;
            for (int steps = 0; steps < KINDS && k != top && k >= 0 && k < KINDS; steps++) {
                k = ABOVE[k];
            }
            return k == top;
        }

        private static int withOwn(int kind, int act) {
            int k = kind;
            for (int steps = 0; steps < KINDS && k > 0 && k < KINDS && OWN[ACTS * k + act] == 0; steps++) {
                k = ABOVE[k];
            }
            return k;
        }

        int acted(int n, int act, int x) {
            return called(n, act, x, 0);
        }

        private int called(int n, int act, int x, int deep) {
            return begin(n, kinds[n], act, x, deep);
        }

        private int begin(int n, int kind, int act, int x, int deep) {
            int k = withOwn(kind, act);
            if (k < 0 || k >= KINDS || deep >= MOST_DEEP) {
                return 0;
            }
            int number = OWN[ACTS * k + act];
            if (ran < MOST_TRACED) {
                traced[ran] = number;
            }
            ran++;
            return goOn(n, number, x, ABOVE[k], deep + 1);
        }

        private int goOn(int n, int number, int x, int above, int deep) {
            switch (number) {
                case 1: return x + n;
                case 2: return called(n, CALLS_CHOOSES, x, deep) - called(n, CALLS_PARTS, 1, deep);
                case 10: return called(n, CALLS_GIVES, x, deep) * 2;
                case 11: return x ^ n;
                case 20: return begin(n, above, CALLS_GIVES, x, deep) + 3;
                case 30: return -begin(n, above, CALLS_CHOOSES, x, deep);
                case 40: return begin(n, above, CALLS_PARTS, x, deep) * 3;
                case 41: return begin(n, above, CALLS_GIVES, x + 1, deep);
                case 50: return begin(n, above, CALLS_PARTS, x, deep) - called(n, CALLS_GIVES, 2, deep);
                case 60: return begin(n, above, CALLS_TELLS, x, deep) ^ 5;
                case 70: return begin(n, above, CALLS_GIVES, x, deep) * 2;
                case 80: return begin(n, above, CALLS_CHOOSES, x, deep) + called(n, CALLS_PARTS, 2, deep);
                case 81: return begin(n, above, CALLS_TELLS, x, deep) - 1;
                default: return 0;
            }
        }
    }

    private static final class Shelves {
        static final int BYTES = 0, SHORTS = 1, INTS = 2, LONGS = 3, BOOLEANS = 4, BODY = 5, NOTHING = 6;
        final int[] holds = new int[MOST_SHELVES];
        final int[] bodies = new int[MOST_SHELVES];
        final int[] lengths = new int[MOST_SHELVES];
        final long[][] elements = new long[MOST_SHELVES][MOST_ELEMENTS];

        Shelves() {
            for (int shelf = 0; shelf < MOST_SHELVES; shelf++) {
                holds[shelf] = NOTHING;
            }
        }

        boolean has(int shelf) {
            return shelf >= 0 && shelf < MOST_SHELVES;
        }

        void hold(int shelf, int body) {
            holds[shelf] = body == -1 ? NOTHING : BODY;
            bodies[shelf] = body;
            lengths[shelf] = 0;
        }

        void holdRow(int shelf, int sort, int n) {
            holds[shelf] = sort;
            lengths[shelf] = n;
            for (int i = 0; i < n && i < MOST_ELEMENTS; i++) {
                elements[shelf][i] = 0;
            }
        }

        int refuses(int shelf, int i) {
            if (!has(shelf)) {
                return BAD;
            }
            if (holds[shelf] == NOTHING) {
                return NOTHING_THERE;
            }
            if (holds[shelf] == BODY) {
                return OTHER_KIND;
            }
            return reaches(shelf, i, 1) ? 0 : NO_SUCH_PLACE;
        }

        boolean reaches(int shelf, int i, int n) {
            return i >= 0 && n >= 0 && (long) i + n <= lengths[shelf];
        }

        static long lowest(int sort, long v) {
            switch (sort) {
                case BYTES: return (byte) v;
                case SHORTS: return (short) v;
                case INTS: return (int) v;
                case BOOLEANS: return v != 0 ? 1 : 0;
                default: return v;
            }
        }
    }
}
