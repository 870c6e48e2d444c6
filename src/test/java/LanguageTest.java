import java.lang.management.ManagementFactory;
import java.lang.reflect.Constructor;
import java.lang.reflect.Field;
import java.lang.reflect.Method;
import java.lang.reflect.Modifier;
import java.nio.file.Files;
import java.nio.file.Path;
import java.util.ArrayList;
import java.util.Arrays;
import java.util.Collections;
import java.util.List;
import java.util.regex.Matcher;
import java.util.regex.Pattern;

/** The face of the document, and the rules of ../shared/LANGUAGE.md that a look at the class can show. */
public final class LanguageTest {
    private static final String[] FACE = {
        "int act(int, int, int)", "int belt(int, int)", "int best(int, int, int)", "int body(int)", "int changed(int, int)", "int count(int)",
        "int course(int)", "int dead(int, int)", "int eyes(int)", "int feed(int, int)", "int gain(int)", "int keep(int, int)", "int law()",
        "int led()", "int mend(int, int, int)", "int needed(int)", "int of(int, int)", "int person(int)", "int point(int, int)",
        "int put(int, int, long)", "int race(int, int, int, int)", "int ran(int, int, int)", "int records(int, int, int)", "int redo()",
        "int row(int, int, int)", "int rule(int)", "int runner(int, int)", "int runs(int, int, int)", "int shares(int, int, int)",
        "int shift(int, int, int, int, int)", "int shoe(int, int, int)", "int taken(int, int)", "int trace(int)", "int undo()",
        "int unseen(int, int)", "long element(int, int)",
    };
    private static final String[] FORBIDDEN = {
        "throw", "throws", "try", "catch", "finally", "synchronized", "assert", "import", "package", "System.out", "Exact", "Object",
        "protected", "volatile", "native", "hashCode", "toString", "compareTo",
    };
    private static int wrong = 0;

    private static void must(boolean holds, String what) {
        if (!holds) {
            wrong++;
            System.out.println(what);
        }
    }

    public static void main(String[] args) throws Exception {
        face();
        members();
        words();
        new CallsInText(source()).look();
        memory();
        System.out.println(wrong == 0 ? "the face and the language are as told" : wrong + " rules are broken");
        if (wrong != 0) {
            System.exit(1);
        }
    }

    private static String types(Class<?>[] types) {
        List<String> names = new ArrayList<>();
        for (Class<?> type : types) {
            names.add(type.getSimpleName());
        }
        return "(" + String.join(", ", names) + ")";
    }

    private static void face() throws Exception {
        List<String> found = new ArrayList<>(), hidden = new ArrayList<>();
        for (Method m : ThreeHundred.class.getDeclaredMethods()) {
            if (Modifier.isPublic(m.getModifiers())) {
                found.add(m.getReturnType().getSimpleName() + " " + m.getName() + types(m.getParameterTypes()));
            } else {
                must(Modifier.isPrivate(m.getModifiers()), "neither public nor private: " + m);
                hidden.add(m.getName());
            }
        }
        Collections.sort(found);
        must(found.equals(Arrays.asList(FACE)), "the methods are not the document's: " + found);
        for (Method m : ThreeHundred.class.getDeclaredMethods()) {
            must(!Modifier.isPublic(m.getModifiers()) || !hidden.contains(m.getName()), "private, too: " + m.getName());
        }
        Constructor<?>[] made = ThreeHundred.class.getDeclaredConstructors();
        must(made.length == 1 && made[0].getParameterCount() == 0 && Modifier.isPublic(made[0].getModifiers()), "the constructor");
        must(Modifier.toString(ThreeHundred.class.getModifiers()).equals("public final"), "the class is public and final");
        String[] names = {"BAD", "NOT", "FULL", "BIG", "STATE", "VOID"};
        int[] values = {-1, -2, -3, -4, -5, -2000000000};
        int constants = 0;
        for (Field f : ThreeHundred.class.getDeclaredFields()) {
            if (!Modifier.isPrivate(f.getModifiers())) {
                int k = Arrays.asList(names).indexOf(f.getName());
                must(k >= 0 && f.getInt(null) == values[k] && Modifier.toString(f.getModifiers()).equals("public static final"), "constant: " + f);
                constants++;
            }
        }
        must(constants == names.length, "so many constants: " + constants);
    }

    private static void members() {
        Class<?>[] inside = ThreeHundred.class.getDeclaredClasses();
        must(inside.length + 1 <= 12, "so many classes: " + (inside.length + 1));
        for (Class<?> type : inside) {
            must(Modifier.isStatic(type.getModifiers()), "an inner class: " + type);
            must(Modifier.isPrivate(type.getModifiers()), "not private: " + type);
            must(type.getDeclaredClasses().length == 0, "classes inside of " + type);
        }
        List<Class<?>> all = new ArrayList<>(Arrays.asList(inside));
        all.add(ThreeHundred.class);
        for (Class<?> type : all) {
            int fields = 0;
            for (Field f : type.getDeclaredFields()) {
                must(!Modifier.isStatic(f.getModifiers()) || Modifier.isFinal(f.getModifiers()), "static and not final: " + f);
                fields += Modifier.isStatic(f.getModifiers()) ? 0 : 1;
            }
            must(fields <= 20, "so many fields in " + type + ": " + fields);
            for (Method m : type.getDeclaredMethods()) {
                must(m.getParameterCount() <= 7, "so many parameters: " + m);
                must(!m.isSynthetic(), "made by the compiler: " + m);
                must(type == ThreeHundred.class || !isOfFace(m.getName()), "bears a public name: " + m);
            }
        }
    }

    private static boolean isOfFace(String name) {
        for (String one : FACE) {
            if (one.contains(" " + name + "(")) {
                return true;
            }
        }
        return false;
    }

    private static void words() throws Exception {
        String text = Files.readString(Path.of("src/main/java/ThreeHundred.java"));
        for (int i = 0; i < text.length(); i++) {
            must(text.charAt(i) < 128, "a sign beyond 127 at " + i);
        }
        String code = source();
        for (String word : FORBIDDEN) {
            must(!code.matches("(?s).*\\b" + word.replace(".", "\\.") + "\\b.*"), "the word " + word);
        }
        must(!code.contains("->") && !code.contains("::"), "a lambda or a method reference");
        must(code.indexOf("while (true)") < 0 && code.indexOf("for (;;") < 0, "a loop without an end");
        int start = 0, line = 0;
        for (String one : code.split("\n")) {
            line++;
            if (one.matches(" {4}( {4})?[a-z].*\\) \\{")) start = line;
            if (one.matches(" {4}( {4})?\\}")) must(line - start <= 60, "a long method ends in line " + line);
        }
    }

    private static String source() throws Exception {
        return Files.readString(Path.of("src/main/java/ThreeHundred.java")).replaceAll("(?s)/\\*.*?\\*/", "").replaceAll("//[^\n]*", "");
    }

    /**
     * Which method calls which, as the text tells: by its name alone within a class (or the one around it), behind a
     * dot in any class that has the name. So more calls may be seen than there are, and never fewer.
     */
    private static final class CallsInText {
        private static final int MOST_DEEP = 8;
        private static final Pattern CLASS = Pattern.compile(" {4}private static final class (\\w+) \\{");
        private static final Pattern METHOD = Pattern.compile("( {4}| {8})((?:public |private |static )*)[\\w\\[\\]]+ (\\w+)\\(.*\\) \\{");
        private static final Pattern CALLED = Pattern.compile("(\\.)?\\b(\\w+)\\(");
        private final List<String> owners = new ArrayList<>(), names = new ArrayList<>(), signs = new ArrayList<>(), bodies = new ArrayList<>();
        private final boolean[][] calls;
        private final boolean[][] reaches;

        CallsInText(String code) {
            String owner = "ThreeHundred", end = "    }";
            StringBuilder body = null;
            for (String line : code.split("\n")) {
                Matcher type = CLASS.matcher(line), method = METHOD.matcher(line);
                if (type.matches()) {
                    owner = type.group(1);
                } else if (body == null && method.matches()) {
                    end = method.group(1) + "}";
                    owners.add(owner);
                    signs.add(method.group(2));
                    names.add(method.group(3));
                    body = new StringBuilder();
                } else if (body != null && line.equals(end)) {
                    bodies.add(body.toString());
                    body = null;
                } else if (body != null) {
                    body.append(line).append('\n');
                }
            }
            calls = new boolean[names.size()][names.size()];
            reaches = new boolean[names.size()][names.size()];
        }

        void look() {
            must(names.size() == bodies.size() && names.size() > 100, "so many methods in the text: " + names.size());
            for (int from = 0; from < names.size(); from++) {
                Matcher called = CALLED.matcher(bodies.get(from));
                while (called.find()) {
                    mark(from, called.group(1) != null, called.group(2));
                }
            }
            follow();
            for (int n = 0; n < names.size(); n++) {
                must(!reaches[n][n] || signs.get(n).contains("private"), "recursion, and not private: " + owners.get(n) + "." + names.get(n));
                must(deep(n) <= MOST_DEEP, "so many calls deep: " + deep(n) + ", " + owners.get(n) + "." + names.get(n));
            }
        }

        private void mark(int from, boolean behindDot, String name) {
            boolean own = false;
            for (int to = 0; to < names.size() && !behindDot; to++) {
                own |= names.get(to).equals(name) && owners.get(to).equals(owners.get(from));
            }
            for (int to = 0; to < names.size(); to++) {
                String owner = owners.get(to);
                if (names.get(to).equals(name) && (behindDot || owner.equals(own ? owners.get(from) : "ThreeHundred"))) {
                    calls[from][to] = true;
                    reaches[from][to] = true;
                }
            }
        }

        private void follow() {
            for (int by = 0; by < names.size(); by++) {
                for (int from = 0; from < names.size(); from++) {
                    for (int to = 0; to < names.size(); to++) {
                        reaches[from][to] |= reaches[from][by] && reaches[by][to];
                    }
                }
            }
        }

        /** Methods that call one another count as one. */
        private int deep(int n) {
            int most = 0;
            for (int from = 0; from < names.size(); from++) {
                boolean one = from == n || reaches[n][from] && reaches[from][n];
                for (int to = 0; to < names.size() && one; to++) {
                    if (calls[from][to] && !(to == n || reaches[to][n])) {
                        most = Math.max(most, deep(to));
                    }
                }
            }
            return 1 + most;
        }
    }

    /** After it has been made an object makes nothing more. */
    private static void memory() {
        com.sun.management.ThreadMXBean bean = (com.sun.management.ThreadMXBean) ManagementFactory.getThreadMXBean();
        long self = Thread.currentThread().getId();
        dearCalls(new ThreeHundred());
        dearCalls(new ThreeHundred());
        ThreeHundred x = new ThreeHundred();
        long before = bean.getThreadAllocatedBytes(self);
        dearCalls(x);
        long made = bean.getThreadAllocatedBytes(self) - before;
        must(made < 4096, "the calls made " + made + " bytes");
    }

    private static void dearCalls(ThreeHundred x) {
        for (int k = 0; k < 20; k++) {
            x.runner(1000 + k, 50000);
        }
        x.course(1000);
        x.shoe(40, 30, 0);
        x.feed(4, 'z' | '<' << 8 | '5' << 16 | '0' << 24);
        x.law();
        x.eyes(70);
        for (int k = 0; k < 6; k++) {
            x.race(0, 10 * k + 1, 0, k);
        }
        for (int k = 0; k < 60; k++) {
            x.gain(k % 5);
            x.unseen(k % 6, k % 2);
            x.records(0, 99, -1);
            x.led();
            x.row(k % 6, k % 5, 60);
            x.put(k % 6, k, k);
            x.body(7);
            x.act(k, 3, k);
            x.mend(k, 0, 500 + k);
            x.needed(1);
        }
    }
}
