import java.lang.reflect.InvocationTargetException;
import java.lang.reflect.Method;
import java.nio.file.Files;
import java.nio.file.Path;
import java.util.ArrayList;
import java.util.Arrays;
import java.util.HashMap;
import java.util.List;
import java.util.Map;
import java.util.function.Consumer;

/**
 * One test of a boundary: the words of the document that name it, and a run of calls on a house of its own,
 * each told as a text. A refused call must also change nothing: all that can be seen of the house is asked
 * of two new ones, of which one was told that call and the other was not.
 */
final class Edge {
    static final int BAD = HourHouse.BAD, NO = HourHouse.NO, FULL = HourHouse.FULL, SPENT = HourHouse.SPENT;
    static final int NONE = HourHouse.NONE, NOTHING = HourHouse.NOTHING, INDEX = HourHouse.INDEX, SIZE = HourHouse.SIZE;
    static final int MIN = Integer.MIN_VALUE, MAX = Integer.MAX_VALUE;
    /** What an object answers behind so many calls is free: no test asks for it. */
    static final int MOST_CALLS = 512;
    private static final Path DOC = Path.of("../shared/DOC.md");
    private static final int[] ODD = {MIN, MIN + 1, -1000000005, -65536, -256, -1, 256, 65536, 1000000000, MAX - 1, MAX};

    private static final Map<String, Method> METHODS = methods();
    private static final Map<String, Integer> NAMES = Map.of("BAD", BAD, "NO", NO, "FULL", FULL, "SPENT", SPENT,
        "NONE", NONE, "MIN", MIN, "MAX", MAX);
    private static final String document = document();
    private static final int[] asked = new int[45];
    private static int sentences = 0;
    private static int answers = 0;
    private static int wrong = 0;

    private final int promise;
    private final String words;
    private final List<Call> log = new ArrayList<>();
    private final HourHouse house = new HourHouse();
    private int made = 0;

    private Edge(int promise, String words) {
        this.promise = promise;
        this.words = words;
    }

    /** A call with its numbers, told as a text: entry(0, 0, 0, 240, 5). */
    record Call(String text, Method method, Object[] numbers) {
        static Call of(String text) {
            int open = text.indexOf('('), close = text.indexOf(')');
            Method method = METHODS.get(text.substring(0, open));
            String inside = text.substring(open + 1, close).strip();
            String[] told = inside.isEmpty() ? new String[0] : inside.split(",");
            Object[] numbers = new Object[told.length];
            for (int i = 0; i < told.length; i++) numbers[i] = number(told[i].strip());
            return new Call(text, method, numbers);
        }

        private static Integer number(String told) {
            Integer named = NAMES.get(told);
            return named != null ? named : Integer.valueOf(told);
        }

        boolean is(String name) {
            return method.getName().equals(name);
        }

        int on(HourHouse house) {
            try {
                return (Integer) method.invoke(house, numbers);
            } catch (InvocationTargetException | IllegalAccessException e) {
                throw new IllegalStateException(text + " threw", e);
            }
        }
    }

    private static Map<String, Method> methods() {
        Map<String, Method> map = new HashMap<>();
        for (Method m : HourHouse.class.getDeclaredMethods()) map.put(m.getName(), m);
        return map;
    }

    private static String document() {
        try {
            return Files.exists(DOC) ? plain(Files.readString(DOC)) : null;
        } catch (java.io.IOException e) {
            return null;
        }
    }

    private static String plain(String text) {
        return text.replaceAll("\\s+", " ");
    }

    /** A test of words of the document (they must stand there) that a promise leads to. */
    static void test(int promise, String words, Consumer<Edge> body) {
        sentences++;
        Edge edge = new Edge(promise, words);
        if (document != null && !document.contains(plain(words))) edge.fail("these words do not stand in the document");
        try {
            body.accept(edge);
        } catch (IllegalStateException e) {
            edge.fail(e.getMessage() + ": " + e.getCause().getCause());
        }
    }

    /** Ends a program of tests: each promise of its own must have been asked. */
    static void end(int first, int last) {
        for (int p = first; p <= last; p++) {
            if (asked[p] == 0) {
                wrong++;
                System.out.println("promise " + p + ": there is no test");
            }
        }
        System.out.println(wrong == 0 ? sentences + " boundaries, " + answers + " answers are as due" : wrong + " are not as due");
        if (wrong != 0) System.exit(1);
    }

    private void fail(String what) {
        wrong++;
        System.out.println("promise " + promise + " (" + words + "): " + what);
    }

    private int ask(Call call) {
        made++;
        answers++;
        asked[promise]++;
        if (made == MOST_CALLS + 1) fail("the test makes more than 512 calls");
        return call.on(house);
    }

    private void same(String call, int got, int want) {
        if (got != want) fail(call + " answered " + name(got) + ", due is " + name(want));
    }

    private static String name(int answer) {
        for (Map.Entry<String, Integer> e : NAMES.entrySet()) if (e.getValue() == answer) return e.getKey();
        return answer == NOTHING ? "NOTHING" : answer == INDEX ? "INDEX" : answer == SIZE ? "SIZE" : "" + answer;
    }

    // ---- calls that are taken

    /** Calls that make a house ready: none of them may be refused. */
    Edge set(String... calls) {
        for (String call : calls) taken(call);
        return this;
    }

    Edge times(int many, String call) {
        for (int i = 0; i < many; i++) taken(call);
        return this;
    }

    Edge taken(String text) {
        Call call = Call.of(text);
        int got = ask(call);
        log.add(call);
        if (got < 0) fail(text + " was refused: " + name(got));
        return this;
    }

    Edge due(String text, int want) {
        Call call = Call.of(text);
        int got = ask(call);
        log.add(call);
        same(text, got, want);
        return this;
    }

    /** Answers of a row of calls that differ in one number alone, which goes from 0 on. */
    Edge dues(String text, int... wants) {
        for (int i = 0; i < wants.length; i++) due(with(text, i), wants[i]);
        return this;
    }

    /** Puts a text on the tape behind what is there. */
    Edge put(String text) {
        int size = Call.of("count(9)").on(house);
        made++;
        byte[] row = new byte[(text.length() + 11) / 12 * 12];
        for (int i = 0; i < text.length(); i++) row[i] = (byte) text.charAt(i);
        for (int i = 0; i < row.length; i += 12) {
            taken("feed(" + four(row, i) + ", " + four(row, i + 4) + ", " + four(row, i + 8) + ")");
        }
        return taken("trim(" + (size + text.length()) + ")");
    }

    static int four(byte[] row, int at) {
        return row[at] << 24 | (row[at + 1] & 255) << 16 | (row[at + 2] & 255) << 8 | (row[at + 3] & 255);
    }

    Edge terms(int client, int day, String text) {
        return put(text).taken("terms(" + client + ", " + day + ")");
    }

    /** One lawyer at 70, one client, one matter of the plainest kind. */
    Edge small() {
        return set("person(1, 70)", "client()", "matter(0, 0, 0)");
    }

    /** A house like this one, to go on with by itself. */
    Edge fork() {
        Edge other = new Edge(promise, words);
        for (Call call : log) {
            other.made++;
            other.log.add(call);
            call.on(other.house);
        }
        return other;
    }

    // ---- calls that are refused

    /** A call that is refused with an answer, and changes nothing. */
    Edge refused(String text, int want) {
        Call call = Call.of(text);
        same(text, ask(call), want);
        List<Call> told = new ArrayList<>(log);
        List<Call> untold = new ArrayList<>(log);
        told.add(call);
        if (call.is("terms")) {
            untold.add(Call.of("trim(0)"));
            log.add(Call.of("trim(0)"));
        }
        if (call.is("check")) {
            untold.removeIf(c -> c.is("tell") || c.is("check"));
            log.add(call);
        }
        View.unlike(untold, told).ifPresent(what -> fail(text + " was refused, but changed something: " + what));
        return this;
    }

    /** A call that is refused, whatever it answers. */
    Edge isRefused(String text) {
        Call call = Call.of(text);
        int got = ask(call);
        log.add(call);
        if (got >= 0) fail(text + " was not refused, but answered " + got);
        return this;
    }

    Edge bad(String... calls) {
        for (String call : calls) refused(call, BAD);
        return this;
    }

    /** The number that stands as ? in a call is taken from least to most, all others are BAD. */
    Edge range(String text, int least, int most) {
        return range(text, least, most, BAD, BAD);
    }

    Edge range(String text, int least, int most, int below, int above) {
        int[] inside = {least, most, least + (most - least) / 2};
        for (int v : inside) {
            if (v >= least && v <= most) fork().taken(with(text, v));
        }
        outside(least - 1, text, least, most, below, above);
        outside(most + 1, text, least, most, below, above);
        for (int v : ODD) outside(v, text, least, most, below, above);
        return this;
    }

    private void outside(int v, String text, int least, int most, int below, int above) {
        if (v < least) refused(with(text, v), below);
        if (v > most) refused(with(text, v), above);
    }

    static String with(String text, int v) {
        return text.replace("?", String.valueOf(v));
    }

    @Override
    public String toString() {
        return words + " " + Arrays.toString(log.toArray());
    }
}
