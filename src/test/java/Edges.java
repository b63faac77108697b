import java.lang.reflect.InvocationTargetException;
import java.lang.reflect.Method;
import java.util.Arrays;
import java.util.Comparator;
import java.util.LinkedHashMap;
import java.util.Map;
import java.util.TreeSet;

/**
 * What the tests of the document's edges share: states to ask in, numbers outside a range, and a look at
 * all that an object tells, by which it is seen that a call changed nothing.
 */
final class Edges {
    static final int UNKNOWN = -1, OUTSIDE = -2, STATE = -3, FULL = -4, NO = -5, NONE = -6, FAULT = -7;
    static final int LOW = Integer.MIN_VALUE, HIGH = Integer.MAX_VALUE;

    static final String NINE = "012012012";
    static final String NINE_LONG = "0-1-2-0-1-2-0-1-2-";
    static final String ELEVEN = "0102030411121314212223";

    interface Lead {
        void on(TuneWords x);
    }

    interface Ask {
        int of(TuneWords x);
    }

    private interface Look {
        String at(TuneWords x);
    }

    /** Each look takes an object of its own, so that none is used for more than 512 calls. */
    private static final Look[] LOOKS = {Edges::lookNow, Edges::lookAtPad, x -> lookAtImage(x, 0), x -> lookAtImage(x, 1)};

    /** States of which each is led to by calls on a new object. */
    private static final Map<String, Lead> STATES = new LinkedHashMap<>();

    static {
        STATES.put("a new object", x -> { });
        STATES.put("a line on the pad", Edges::leadToLineOnPad);
        STATES.put("a tune on the pad", Edges::leadToTuneOnPad);
        STATES.put("a laying on the pad", Edges::leadToLayingOnPad);
        STATES.put("all full", Edges::leadToAllFull);
    }

    private final Check check;
    private String running = "";

    Edges(String name) {
        check = new Check(name);
    }

    /** Runs the tests of a class, each a static method by whose name its sentence is found in the document. */
    void runAll(Class<?> tests, String... mustBegin) {
        Method[] methods = tests.getDeclaredMethods();
        Arrays.sort(methods, Comparator.comparing(Method::getName));
        TreeSet<String> missing = new TreeSet<>(Arrays.asList(mustBegin));
        for (Method method : methods) {
            String name = method.getName();
            if (method.getParameterCount() == 0 && (name.startsWith("promise") || name.startsWith("terms"))) {
                run(method);
                missing.removeIf(name::startsWith);
            }
        }
        check.holds("each has a test, " + missing + " too", missing.isEmpty());
        check.end();
    }

    private void run(Method method) {
        running = method.getName();
        try {
            method.setAccessible(true);
            method.invoke(null);
        } catch (IllegalAccessException | InvocationTargetException e) {
            check.holds(running + " ends without " + e.getCause(), false);
        }
    }

    void due(String call, int got, int want) {
        check.due(running + ": " + call, got, want);
    }

    void due(String call, String got, String want) {
        check.holds(running + ": " + call + " is " + want + ", not " + got, got.equals(want));
    }

    // ---- numbers

    /** The first ones outside on either side, those far away, and some that a narrower number takes for inside. */
    static int[] beside(int from, int to) {
        return new int[] {
            from - 1, to + 1, LOW, HIGH, LOW + 1, HIGH - 1, from - 256, to + 256, from + 65536, from + (1 << 30)
        };
    }

    static final int[] NO_LINES = beside(0, 2);
    static final int[] NO_TUNES = beside(0, 3);

    // ---- leading

    static void sayAll(TuneWords x, String signs) {
        for (int at = 0; at < signs.length(); at++) {
            x.say(signs.charAt(at));
        }
    }

    static TuneWords withPad(String signs) {
        TuneWords x = new TuneWords();
        sayAll(x, signs);
        return x;
    }

    static void setLine(TuneWords x, int line, String signs) {
        x.wipe();
        sayAll(x, signs);
        mustBeTaken(signs, x.line(line));
    }

    static void setTune(TuneWords x, int tune, String signs) {
        x.wipe();
        sayAll(x, signs);
        mustBeTaken(signs, x.tune(tune));
    }

    /** A slip in a test's own signs is not to pass for an answer. */
    private static void mustBeTaken(String signs, int answer) {
        if (answer < 0) {
            throw new IllegalStateException(signs + " answered " + answer);
        }
    }

    static void setRules(TuneWords x, int fit, int hold, int share, int cut) {
        x.rule(0, fit);
        x.rule(1, hold);
        x.rule(2, share);
        x.rule(3, cut);
    }

    /** Line 0 and tune 0 as told, all else as in a new object. */
    static TuneWords laid(String line, String tune) {
        TuneWords x = new TuneWords();
        setLine(x, 0, line);
        setTune(x, 0, tune);
        return x;
    }

    static TuneWords laid(String line, String tune, int... rules) {
        TuneWords x = laid(line, tune);
        setRules(x, rules[0], rules[1], rules[2], rules[3]);
        return x;
    }

    static int costOf(TuneWords x, String laying) {
        x.wipe();
        sayAll(x, laying);
        return x.cost(0, 0);
    }

    private static void leadToLineOnPad(TuneWords x) {
        setLine(x, 0, "2-0");
        setTune(x, 3, "1422");
        x.image(1);
        setLine(x, 2, "1");
        setTune(x, 1, "230111");
        setRules(x, 9, 0, 5, 1);
        sayAll(x, "2-01");
    }

    private static void leadToTuneOnPad(TuneWords x) {
        setLine(x, 1, "012-");
        x.image(0);
        setTune(x, 0, "0121");
        setLine(x, 1, "");
        x.rule(2, 9);
        sayAll(x, "042111");
    }

    private static void leadToLayingOnPad(TuneWords x) {
        setLine(x, 0, "2-0-");
        setTune(x, 0, "0121");
        sayAll(x, "ohs");
    }

    static void leadToAllFull(TuneWords x) {
        setLine(x, 1, "2-");
        x.image(0);
        setTune(x, 2, "1322");
        setRules(x, 1, 2, 3, 4);
        x.image(1);
        for (int line = 0; line < 3; line++) {
            setLine(x, line, line == 1 ? NINE : NINE_LONG);
        }
        for (int tune = 0; tune < 4; tune++) {
            setTune(x, tune, tune == 2 ? ELEVEN : ("" + tune % 3 + (tune + 1)).repeat(11));
        }
        setRules(x, 9, 9, 9, 9);
        sayAll(x, ELEVEN);
    }

    // ---- looking

    private static String lookNow(TuneWords x) {
        StringBuilder seen = new StringBuilder();
        for (int what = 0; what <= 13; what++) {
            seen.append(what < 5 || what > 9 ? x.count(what) : 0).append(' ');
        }
        for (int line = 0; line < 3; line++) {
            int syllables = x.syllable(line, -1, 0);
            seen.append("line").append(line).append(':').append(syllables).append(' ');
            for (int i = 0; i < syllables; i++) {
                seen.append(x.syllable(line, i, 0)).append(x.syllable(line, i, 1) == 1 ? "-" : "");
            }
        }
        for (int tune = 0; tune < 4; tune++) {
            int notes = x.note(tune, -1, 0);
            seen.append("tune").append(tune).append(':').append(notes).append(' ');
            for (int i = 0; i < notes; i++) {
                seen.append(x.note(tune, i, 0)).append(x.note(tune, i, 1));
            }
            for (int line = 0; line < 3; line++) {
                seen.append(' ').append(x.least(line, tune, -1));
            }
        }
        return seen.toString();
    }

    /** No call tells the signs, so they are seen by what they do as a laying, a line and a tune. */
    private static String lookAtPad(TuneWords x) {
        StringBuilder seen = new StringBuilder();
        seen.append(x.count(2)).append(' ').append(x.fault(0)).append(' ').append(x.fault(1));
        for (int line = 0; line < 3; line++) {
            for (int tune = 0; tune < 4; tune++) {
                seen.append(' ').append(x.cost(line, tune));
            }
        }
        seen.append(' ').append(x.line(0)).append(' ').append(x.tune(0)).append(' ').append(x.wipe());
        return seen.append(' ').append(lookNow(x)).toString();
    }

    private static String lookAtImage(TuneWords x, int k) {
        return x.restore(k) + " " + lookNow(x);
    }

    // ---- calls that change nothing

    /** Led to a state, then asked: all that is told behind it is as if it had not been asked. */
    private void asked(String call, String state, Lead lead, Ask ask, Integer want) {
        for (Look look : LOOKS) {
            TuneWords x = new TuneWords();
            TuneWords without = new TuneWords();
            lead.on(x);
            lead.on(without);
            int got = ask.of(x);
            if (want != null) {
                due(call + " in " + state, got, want);
            }
            due("what is told behind " + call + " in " + state, look.at(x), look.at(without));
        }
    }

    /** Refused alike in every state, and nothing is changed. */
    void refused(String call, Ask ask, int want) {
        STATES.forEach((state, lead) -> asked(call, state, lead, ask, want));
    }

    /** Refused in the state to which lead leads, and nothing is changed. */
    void refused(String call, String state, Lead lead, Ask ask, int want) {
        asked(call, state, lead, ask, want);
    }

    /** Asked in every state, whatever the answer, nothing is changed. */
    void changesNothing(String call, Ask ask) {
        STATES.forEach((state, lead) -> asked(call, state, lead, ask, null));
    }

    /** Led by these calls and by those, objects tell the same, their pads and images too. */
    void alike(String what, Lead these, Lead those) {
        for (Look look : LOOKS) {
            TuneWords x = new TuneWords();
            TuneWords y = new TuneWords();
            these.on(x);
            those.on(y);
            due(what, look.at(x), look.at(y));
        }
    }
}
