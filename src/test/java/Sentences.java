import java.lang.reflect.InvocationTargetException;
import java.lang.reflect.Method;
import java.lang.reflect.Modifier;
import java.nio.file.Files;
import java.nio.file.Path;
import java.util.ArrayList;
import java.util.HashMap;
import java.util.List;
import java.util.Map;
import java.util.Set;
import java.util.TreeMap;
import java.util.TreeSet;
import java.util.regex.Matcher;
import java.util.regex.Pattern;

/**
 * Tests told as texts: the number of a promise, a sentence of the document, and runs of calls that would
 * be answered otherwise if the sentence did not hold. A line is a call with the answer that is due:
 *
 * <pre>
 *   runner(599, 50000) BAD      a number, or one of WORDS
 *   runner(600, 50000) 0..19    again and again: the answers rise (or fall) by one
 *   6 x race(0, 0, 0, 7) 20     six times, each with that answer
 *   mend(0, 0, 1200)            no answer told: any that is not below 0
 *   law("f&lt;120") 0              the text comes to the tape, then law()
 *   tape("f&lt;12") 4              the text comes to the tape
 *   puts(0, 5, 7, 8, 9)         7, 8, 9 come to shelf 0, from place 5 on
 *   new                         a new object
 *   # ...                       a comment
 * </pre>
 *
 * Behind each refused call (one whose answer is one of WORDS) the object is laid beside a twin that was
 * not called so, and at the end of a run beside one that was not asked at all: all that can be read of
 * the two must be the same, for what is refused changes nothing, nor does what is only asked.
 */
final class Sentences {
    private static final int MOST_CALLS = 512;
    private static final Map<String, Long> WORDS = Map.ofEntries(
        Map.entry("BAD", -1L), Map.entry("NOT", -2L), Map.entry("FULL", -3L), Map.entry("STATE", -5L), Map.entry("VOID", -2000000000L),
        Map.entry("NOTHING", -11L), Map.entry("KIND", -12L), Map.entry("PLACE", -13L), Map.entry("SIZE", -14L),
        Map.entry("LEAST", Long.MIN_VALUE));
    private static final Set<String> CHANGING = Set.of("runner", "shoe", "course", "ran", "runs", "mend", "feed", "law", "eyes", "race",
        "point", "undo", "redo", "body", "act", "keep", "row", "put", "shift");
    private static final Pattern LINE = Pattern.compile("(?:(\\d+) x )?(\\w+)\\((\".*\"|[^)]*)\\)\\s*(\\S*)");

    private final Map<String, Method> methods = new HashMap<>();
    private final TreeMap<Integer, Set<String>> shown = new TreeMap<>();
    private final String document;
    private int wrong = 0;
    private int calls = 0;
    private int refusals = 0;
    private String told = "";

    private record Call(String name, long[] arguments, Long due, boolean refused) {
        @Override public String toString() {
            StringBuilder text = new StringBuilder(name).append('(');
            for (int k = 0; k < arguments.length; k++) {
                text.append(k == 0 ? "" : ", ").append(arguments[k]);
            }
            return text.append(')').toString();
        }
    }

    Sentences() throws Exception {
        for (Method m : ThreeHundred.class.getDeclaredMethods()) {
            if (Modifier.isPublic(m.getModifiers())) {
                methods.put(m.getName(), m);
            }
        }
        document = oneLine(Files.readString(Path.of(System.getProperty("document", "../shared/DOC.md"))));
    }

    private static String oneLine(String text) {
        return text.replaceAll("\\s+", " ").trim();
    }

    /** The sentence of that promise (or of the terms that it speaks of) is shown by the runs. */
    void says(int promise, String sentence, String... runs) {
        told = "promise " + promise + ", \"" + sentence + "\"";
        if (!document.contains(oneLine(sentence))) {
            fails("the document does not say so");
        }
        shown.computeIfAbsent(promise, none -> new TreeSet<>()).add(sentence);
        for (String run : runs) {
            List<String> lines = new ArrayList<>();
            for (String line : run.split("\n")) {
                String text = line.replaceAll("(^|\\s+)#.*", "").trim();
                if (text.equals("new")) {
                    follow(lines);
                    lines = new ArrayList<>();
                } else if (!text.isEmpty()) {
                    lines.add(text);
                }
            }
            follow(lines);
        }
    }

    /** The sentence names numbers, and these are the class's. */
    void is(int promise, String sentence, long[] found, long[] due) {
        says(promise, sentence);
        for (int k = 0; k < due.length; k++) {
            if (found[k] != due[k]) {
                fails("number " + k + " is " + found[k] + ", due is " + due[k]);
            }
        }
    }

    /** What was found; the promises from the one to the other must all have been shown. */
    void ends(int first, int last) {
        for (int promise = first; promise <= last; promise++) {
            if (!shown.containsKey(promise)) {
                told = "promise " + promise;
                fails("no sentence of it is shown");
            }
        }
        int sentences = 0;
        for (Set<String> one : shown.values()) {
            sentences += one.size();
        }
        System.out.println(sentences + " sentences, " + calls + " calls, " + refusals + " of them refused: "
            + (wrong == 0 ? "all hold" : wrong + " do not hold"));
        if (wrong != 0) {
            System.exit(1);
        }
    }

    private void fails(String how) {
        wrong++;
        if (wrong <= 60) {
            System.out.println(told + ": " + how);
        }
    }

    private void follow(List<String> lines) {
        List<Call> run = new ArrayList<>();
        for (String line : lines) {
            read(line, run);
        }
        if (run.size() > MOST_CALLS) {
            fails("a run of " + run.size() + " calls");
            return;
        }
        ThreeHundred x = new ThreeHundred();
        for (int k = 0; k < run.size(); k++) {
            Call call = run.get(k);
            long got = perform(x, call);
            calls++;
            if (call.due == null ? got < 0 : got != call.due) {
                fails("call " + k + ", " + call + " answered " + got + ", due is " + (call.due == null ? "no refusal" : call.due));
            }
        }
        compareTwins(run);
    }

    private void compareTwins(List<Call> run) {
        List<Call> taken = new ArrayList<>(), changing = new ArrayList<>();
        List<Long> state = null;
        for (Call call : run) {
            if (!call.refused) {
                taken.add(call);
                if (CHANGING.contains(call.name)) {
                    changing.add(call);
                }
                state = null;
                continue;
            }
            refusals++;
            state = state == null ? stateAfter(taken) : state;
            List<Call> with = new ArrayList<>(taken);
            with.add(call);
            if (!state.equals(stateAfter(with))) {
                fails(call + " was refused and changed something");
            }
        }
        if (run.size() < MOST_CALLS - 40 && !stateAfter(run).equals(stateAfter(changing))) {
            fails("what only asks changed something");
        }
    }

    private long perform(ThreeHundred x, Call call) {
        Method m = methods.get(call.name);
        if (m == null || m.getParameterCount() != call.arguments.length) {
            throw new IllegalStateException(told + ": no such call: " + call);
        }
        Object[] values = new Object[call.arguments.length];
        for (int k = 0; k < values.length; k++) {
            if (m.getParameterTypes()[k] == long.class) {
                values[k] = call.arguments[k];
            } else {
                values[k] = Math.toIntExact(call.arguments[k]);
            }
        }
        try {
            return ((Number) m.invoke(x, values)).longValue();
        } catch (InvocationTargetException thrown) {
            fails(call + " threw " + thrown.getCause());
            return 0;
        } catch (IllegalAccessException never) {
            throw new IllegalStateException(never);
        }
    }

    private void read(String line, List<Call> run) {
        Matcher parts = LINE.matcher(line);
        if (!parts.matches()) {
            throw new IllegalStateException(told + ": not a call: " + line);
        }
        int times = parts.group(1) == null ? 1 : Integer.parseInt(parts.group(1));
        String name = parts.group(2), arguments = parts.group(3), answer = parts.group(4);
        for (int k = 0; k < times; k++) {
            if (arguments.startsWith("\"")) {
                feed(arguments.substring(1, arguments.length() - 1), name, answer, run);
            } else if (name.equals("puts")) {
                long[] v = numbers(arguments);
                for (int i = 2; i < v.length; i++) {
                    run.add(new Call("put", new long[] {v[0], v[1] + i - 2, v[i]}, 1L, false));
                }
            } else {
                call(name, numbers(arguments), answer, run);
            }
        }
    }

    private static long[] numbers(String arguments) {
        if (arguments.isEmpty()) {
            return new long[0];
        }
        String[] texts = arguments.split(",");
        long[] all = new long[texts.length];
        for (int k = 0; k < all.length; k++) {
            String text = texts[k].trim();
            all[k] = text.equals("MIN") ? Integer.MIN_VALUE : text.equals("MAX") ? Integer.MAX_VALUE : Long.parseLong(text);
        }
        return all;
    }

    private static void call(String name, long[] arguments, String answer, List<Call> run) {
        int dots = answer.indexOf("..");
        if (dots >= 0) {
            long first = Long.parseLong(answer.substring(0, dots)), last = Long.parseLong(answer.substring(dots + 2));
            long step = last < first ? -1 : 1;
            for (long due = first; due != last + step; due += step) {
                run.add(new Call(name, arguments, due, false));
            }
            return;
        }
        boolean refused = WORDS.containsKey(answer);
        Long due = answer.isEmpty() ? null : refused ? WORDS.get(answer) : Long.valueOf(answer);
        run.add(new Call(name, arguments, due, refused));
    }

    private static void feed(String text, String name, String answer, List<Call> run) {
        for (int at = 0; at < text.length(); at += 4) {
            int n = Math.min(4, text.length() - at), v = 0;
            for (int k = 0; k < n; k++) {
                v |= (text.charAt(at + k) & 255) << 8 * k;
            }
            call("feed", new long[] {n, v}, name.equals("tape") && at + n == text.length() ? answer : "", run);
        }
        if (!name.equals("tape")) {
            call(name, new long[0], answer, run);
        }
    }

    // ---- what can be read of an object

    /** Objects that were all called so, as many as it takes to read everything in 512 calls each. */
    private final class Reader {
        private final List<Call> before;
        private final List<Long> answers = new ArrayList<>();
        private ThreeHundred x;
        private int left;

        Reader(List<Call> before) {
            this.before = before;
            if (before.size() > MOST_CALLS - 20) {
                throw new IllegalStateException(told + ": too long a run to look at");
            }
            again();
        }

        void again() {
            x = new ThreeHundred();
            for (Call call : before) {
                perform(x, call);
            }
            left = MOST_CALLS - before.size();
        }

        long asks(String name, long... arguments) {
            if (left == 0) {
                again();
            }
            left--;
            long answer = perform(x, new Call(name, arguments, null, false));
            answers.add(answer);
            return answer;
        }
    }

    private List<Long> stateAfter(List<Call> before) {
        Reader r = new Reader(before);
        long[] many = new long[10];
        for (int what = 0; what < 10; what++) {
            many[what] = r.asks("count", what);
        }
        readRuns(r, many);
        readRest(r, many);
        readShelves(r);
        readChanges(r, many);
        readLaws(r, many);
        readActs(r, many);
        return r.answers;
    }

    private void readRuns(Reader r, long[] many) {
        Set<Long> races = new TreeSet<>();
        for (long run = 0; run < many[3]; run++) {
            long[] of = new long[8];
            for (int what = 0; what < 8; what++) {
                of[what] = r.asks("of", run, what);
            }
            races.add(100 * of[1] + of[2]);
        }
        for (long race : races) {
            r.asks("unseen", race, 0);
            r.asks("unseen", race, 1);
        }
        for (int sort = 0; sort < 4; sort++) {
            r.asks("changed", sort, 0);
            r.asks("changed", sort, 1);
        }
        for (int what = 0; what < 5; what++) {
            r.asks("gain", what);
        }
    }

    private void readRest(Reader r, long[] many) {
        for (long runner = 0; runner < many[0]; runner++) {
            r.asks("person", runner);
            r.asks("belt", runner, 99);
        }
        for (int what = 0; what < 3; what++) {
            r.asks("shares", 0, 0, what);
            r.asks("shares", 1, 0, what);
        }
        r.asks("led");
        for (int breath = 0; breath < (many[6] == 0 ? 1 : 100); breath++) {
            r.asks("belt", -1, breath);
        }
        for (long course = 0; course < many[2]; course++) {
            r.asks("records", course, 99, -1);
            r.asks("records", course, 99, 1);
            r.asks("best", course, 99, 0);
        }
        for (int thick = 0; thick < 99; thick += many[3] == 0 ? 99 : 1) {
            r.asks("rule", thick);
        }
        for (long shoe = 0; shoe < many[1]; shoe++) {
            r.asks("dead", shoe, 0);
            r.asks("needed", shoe);
        }
        for (int i = 0; i < 12; i++) {
            r.asks("trace", i);
        }
    }

    private void readShelves(Reader r) {
        for (int shelf = 0; shelf < 6; shelf++) {
            for (int kind = 0; kind < 8; kind++) {
                r.asks("taken", shelf, kind);
            }
            for (int i = 0; i < 60 && r.asks("element", shelf, i) != Long.MIN_VALUE; i++) {
                continue;
            }
            r.again();
            r.asks("put", shelf, 0, 1);
            r.asks("shift", shelf, 0, (shelf + 1) % 6, 0, 0);
        }
    }

    private void readChanges(Reader r, long[] many) {
        r.again();
        while (r.left > 20 && r.asks("redo") >= 0) {
            continue;
        }
        for (long k = many[7]; k >= 0 && r.left > 0; k--) {
            r.asks("undo");
        }
        for (long run = 0; run < many[3] && r.left >= 10; run++) {
            r.asks("of", run, 3);
            r.asks("of", run, 4);
        }
        for (long shoe = 0; shoe < many[1] && r.left > 0; shoe++) {
            r.asks("dead", shoe, 0);
        }
    }

    private void readLaws(Reader r, long[] many) {
        r.again();
        r.asks("eyes", 50);
        r.asks("law");
        r.asks("count", 5);
        for (long law = 0; law < many[5] && many[2] > 0; law++) {
            r.again();
            long came = r.asks("race", 10 * law, 990 + many[1] - 1, 0, 7);
            for (long k = 0; k < came && r.left >= 2; k++) {
                r.asks("of", many[3] + k, 3);
                r.asks("of", many[3] + k, 4);
            }
        }
    }

    private void readActs(Reader r, long[] many) {
        r.again();
        for (long body = 0; body < many[8] && r.left >= 2; body++) {
            r.asks("act", body, 3, 7);
            r.asks("count", 9);
        }
    }
}
