/** Each promise by cases worked out by hand from the document: ordinary ones, edges and refusals. */
public final class PromiseTest {
    private static final int UNKNOWN = -1, OUTSIDE = -2, STATE = -3, FULL = -4, NO = -5, NONE = -6, FAULT = -7;
    private static final int LOW = Integer.MIN_VALUE, HIGH = Integer.MAX_VALUE;
    private static final Check CHECK = new Check("PromiseTest");

    public static void main(String[] args) {
        newObject();
        say();
        wipe();
        faultAsLine();
        faultAsTune();
        line();
        tune();
        rule();
        syllable();
        note();
        cost();
        costRefused();
        least();
        leastRefused();
        ways();
        sung();
        verse();
        best();
        turned();
        anew();
        image();
        restore();
        count();
        CHECK.end();
    }

    private static void due(String call, int got, int want) {
        CHECK.due(call, got, want);
    }

    private static void sayAll(TuneWords x, String signs) {
        for (int at = 0; at < signs.length(); at++) {
            x.say(signs.charAt(at));
        }
    }

    private static void setLine(TuneWords x, int line, String signs) {
        x.wipe();
        sayAll(x, signs);
        CHECK.holds("line " + signs + " is taken", x.line(line) >= 0);
    }

    private static void setTune(TuneWords x, int tune, String signs) {
        x.wipe();
        sayAll(x, signs);
        CHECK.holds("tune " + signs + " is taken", x.tune(tune) >= 0);
    }

    /** Line 0 and tune 0 as told. */
    private static TuneWords laid(String line, String tune) {
        TuneWords x = new TuneWords();
        setLine(x, 0, line);
        setTune(x, 0, tune);
        return x;
    }

    private static void setRules(TuneWords x, int fit, int hold, int share, int cut) {
        x.rule(0, fit);
        x.rule(1, hold);
        x.rule(2, share);
        x.rule(3, cut);
    }

    private static int faultOf(String signs, int how) {
        TuneWords x = new TuneWords();
        sayAll(x, signs);
        return x.fault(how);
    }

    private static int costOf(TuneWords x, String laying) {
        x.wipe();
        sayAll(x, laying);
        return x.cost(0, 0);
    }

    private static String leastOf(TuneWords x) {
        StringBuilder steps = new StringBuilder();
        for (int i = 0; i < 22 && x.least(0, 0, i) >= 0; i++) {
            steps.append("ohs".charAt(x.least(0, 0, i)));
        }
        return steps.toString();
    }

    private static void dueLeast(TuneWords x, String steps, int cost) {
        String got = leastOf(x);
        CHECK.holds("LEAST is " + steps + ", not " + got, got.equals(steps));
        due("least -1 of " + steps, x.least(0, 0, -1), cost);
        due("cost of " + steps, costOf(x, steps), cost);
        due("least behind " + steps, x.least(0, 0, steps.length()), NONE);
    }

    private static void newObject() {
        TuneWords x = new TuneWords();
        int[] due = {0, 0, 0, 0, 0};
        for (int what = 0; what < 5; what++) {
            due("new: count " + what, x.count(what), due[what]);
        }
        int[] rules = {3, 2, 4, 2};
        for (int what = 0; what < 4; what++) {
            due("new: rule " + what, x.count(10 + what), rules[what]);
        }
        for (int k = 0; k < 2; k++) {
            due("new: restore " + k, x.restore(k), STATE);
        }
        for (int line = 0; line < 3; line++) {
            due("new: syllable", x.syllable(line, -1, 0), 0);
        }
        for (int tune = 0; tune < 4; tune++) {
            due("new: note", x.note(tune, -1, 0), 0);
        }
        TuneWords other = laid("12", "1121");
        due("objects share nothing", x.count(0) + x.count(1), 0);
        due("objects share nothing", other.count(0) + other.count(1), 4);
    }

    private static void say() {
        TuneWords x = new TuneWords();
        due("say 33", x.say(33), 1);
        due("say 126", x.say(126), 2);
        for (int sign : new int[] {32, 127, 0, -1, 33 + 256, LOW, HIGH}) {
            due("say " + sign, x.say(sign), OUTSIDE);
        }
        due("nothing was said", x.count(2), 2);
        for (int many = 3; many <= 22; many++) {
            due("say", x.say('1'), many);
        }
        due("say a 23rd", x.say('1'), FULL);
        due("OUTSIDE ahead of FULL", x.say(32), OUTSIDE);
        due("nothing was said", x.count(2), 22);
        x.wipe();
        due("say again", x.say('1'), 1);
    }

    private static void wipe() {
        TuneWords x = laid("12", "1121");
        due("wipe the empty pad", x.wipe(), 0);
        sayAll(x, "abc");
        due("wipe", x.wipe(), 3);
        due("it is empty", x.count(2), 0);
        due("lines stay", x.count(0), 2);
        due("tunes stay", x.count(1), 2);
        due("wipe again", x.wipe(), 0);
    }

    private static void faultAsLine() {
        due("fault: no signs", faultOf("", 0), NONE);
        due("fault: 0", faultOf("0", 0), NONE);
        due("fault: 2-1-0-", faultOf("2-1-0-", 0), NONE);
        due("fault: -", faultOf("-", 0), 0);
        due("fault: 3", faultOf("3", 0), 0);
        due("fault: 123", faultOf("123", 0), 2);
        due("fault: 1--", faultOf("1--", 0), 2);
        due("fault: 12-/1", faultOf("12-/1", 0), 3);
        due("fault: o", faultOf("1o", 0), 1);
        due("fault: 9 syllables", faultOf("012012012", 0), NONE);
        due("fault: 9 long syllables", faultOf("0-1-2-0-1-2-0-1-2-", 0), NONE);
        due("fault: 10 syllables", faultOf("0120120120", 0), 9);
        due("fault: 10 syllables, the 9th long", faultOf("012012012-0", 0), 10);
        due("fault: 10 syllables, all long", faultOf("0-1-2-0-1-2-0-1-2-0-", 0), 18);
        due("fault: 9 syllables and two -", faultOf("012012012--", 0), 10);
    }

    private static void faultAsTune() {
        due("fault: no signs", faultOf("", 1), NONE);
        due("fault: 01", faultOf("01", 1), NONE);
        due("fault: 24", faultOf("2414", 1), NONE);
        due("fault: 0", faultOf("0", 1), 1);
        due("fault: 011", faultOf("011", 1), 3);
        due("fault: 31", faultOf("31", 1), 0);
        due("fault: 00", faultOf("00", 1), 1);
        due("fault: 05", faultOf("05", 1), 1);
        due("fault: 0131", faultOf("0131", 1), 2);
        due("fault: 01-", faultOf("01-", 1), 2);
        due("fault: the first counts", faultOf("0x1", 1), 1);
        due("fault: 11 notes", faultOf("0102030411121314212223", 1), NONE);
        due("fault: at the last sign", faultOf("0102030411121314212220", 1), 21);
        due("fault: 21 signs", faultOf("010203041112131421222", 1), 21);
        TuneWords x = new TuneWords();
        for (int how : new int[] {-1, 2, LOW, HIGH}) {
            due("fault " + how, x.fault(how), OUTSIDE);
        }
        sayAll(x, "01");
        x.fault(0);
        x.fault(1);
        due("asking leaves the pad", x.count(2), 2);
    }

    private static void line() {
        TuneWords x = new TuneWords();
        sayAll(x, "2-01-");
        due("line 2", x.line(2), 3);
        due("the pad is empty", x.count(2), 0);
        due("stress", x.syllable(2, 0, 0), 2);
        due("long", x.syllable(2, 0, 1), 1);
        due("stress", x.syllable(2, 1, 0), 0);
        due("not long", x.syllable(2, 1, 1), 0);
        due("long", x.syllable(2, 2, 1), 1);
        due("other lines stay", x.syllable(0, -1, 0) + x.syllable(1, -1, 0), 0);
        sayAll(x, "12x");
        for (int line : new int[] {-1, 3, LOW, HIGH}) {
            due("UNKNOWN ahead of FAULT", x.line(line), UNKNOWN);
        }
        due("line of a fault", x.line(2), FAULT);
        due("the pad stays", x.count(2), 3);
        due("the line stays", x.syllable(2, -1, 0), 3);
        x.wipe();
        sayAll(x, "1");
        due("a shorter line", x.line(2), 1);
        due("no trace of the longer", x.syllable(2, 0, 1), 0);
        due("no trace of the longer", x.syllable(2, 1, 0), NONE);
        due("line of the empty pad", x.line(2), 0);
        due("it has none", x.syllable(2, -1, 0), 0);
        sayAll(x, "012012012");
        due("nine", x.line(0), 9);
        sayAll(x, "0120120120");
        due("ten", x.line(1), FAULT);
    }

    private static void tune() {
        TuneWords x = new TuneWords();
        sayAll(x, "011422");
        due("tune 3", x.tune(3), 3);
        due("the pad is empty", x.count(2), 0);
        int[] parts = {0, 1, 1, 4, 2, 2};
        for (int i = 0; i < 6; i++) {
            due("note", x.note(3, i / 2, i % 2), parts[i]);
        }
        due("other tunes stay", x.note(0, -1, 0) + x.note(1, -1, 0) + x.note(2, -1, 0), 0);
        sayAll(x, "0");
        for (int tune : new int[] {-1, 4, LOW, HIGH}) {
            due("UNKNOWN ahead of FAULT", x.tune(tune), UNKNOWN);
        }
        due("tune that must go on", x.tune(3), FAULT);
        due("the pad stays", x.count(2), 1);
        due("the tune stays", x.note(3, -1, 0), 3);
        sayAll(x, "3");
        due("a shorter tune", x.tune(3), 1);
        due("no trace of the longer", x.note(3, 1, 0), NONE);
        due("tune of the empty pad", x.tune(3), 0);
        sayAll(x, "0102030411121314212223");
        due("eleven", x.tune(0), 11);
        due("the last", x.note(0, 10, 0), 2);
        due("the last", x.note(0, 10, 1), 3);
        sayAll(x, "12-");
        due("a line is no tune", x.tune(1), FAULT);
    }

    private static void rule() {
        TuneWords x = new TuneWords();
        int[] first = {3, 2, 4, 2};
        for (int what = 0; what < 4; what++) {
            due("rule " + what, x.rule(what, 5 + what), first[what]);
        }
        for (int what = 0; what < 4; what++) {
            due("it is as set", x.count(10 + what), 5 + what);
        }
        due("to 9", x.rule(1, 9), 6);
        due("to 0", x.rule(1, 0), 9);
        due("was 0", x.rule(1, 1), 0);
        for (int what : new int[] {-1, 4, LOW, HIGH}) {
            due("rule " + what, x.rule(what, 1), OUTSIDE);
        }
        for (int v : new int[] {-1, 10, LOW, HIGH}) {
            due("v " + v, x.rule(0, v), OUTSIDE);
        }
        due("both", x.rule(4, 10), OUTSIDE);
        due("nothing changed", x.count(10), 5);
    }

    private static void syllable() {
        TuneWords x = laid("2-0", "11");
        due("stress", x.syllable(0, 0, 0), 2);
        due("long", x.syllable(0, 0, 1), 1);
        due("not long", x.syllable(0, 1, 1), 0);
        due("how many, what 0", x.syllable(0, -1, 0), 2);
        due("how many, what 1", x.syllable(0, -1, 1), 2);
        for (int i : new int[] {2, 8, 9, HIGH, -2, LOW}) {
            due("none such: " + i, x.syllable(0, i, 0), NONE);
        }
        for (int what : new int[] {-1, 2, LOW, HIGH}) {
            due("OUTSIDE", x.syllable(0, 0, what), OUTSIDE);
            due("OUTSIDE ahead of how many", x.syllable(0, -1, what), OUTSIDE);
            due("OUTSIDE ahead of NONE", x.syllable(0, 5, what), OUTSIDE);
            due("UNKNOWN ahead of OUTSIDE", x.syllable(3, 0, what), UNKNOWN);
        }
        for (int line : new int[] {-1, 3, LOW, HIGH}) {
            due("UNKNOWN", x.syllable(line, -1, 0), UNKNOWN);
        }
    }

    private static void note() {
        TuneWords x = laid("1", "2413");
        due("beat", x.note(0, 0, 0), 2);
        due("length", x.note(0, 0, 1), 4);
        due("beat", x.note(0, 1, 0), 1);
        due("length", x.note(0, 1, 1), 3);
        due("how many, what 0", x.note(0, -1, 0), 2);
        due("how many, what 1", x.note(0, -1, 1), 2);
        for (int i : new int[] {2, 10, 11, HIGH, -2, LOW}) {
            due("none such: " + i, x.note(0, i, 1), NONE);
        }
        for (int what : new int[] {-1, 2, LOW, HIGH}) {
            due("OUTSIDE", x.note(0, 0, what), OUTSIDE);
            due("OUTSIDE ahead of how many", x.note(0, -1, what), OUTSIDE);
            due("OUTSIDE ahead of NONE", x.note(0, 5, what), OUTSIDE);
            due("UNKNOWN ahead of OUTSIDE", x.note(4, 0, what), UNKNOWN);
        }
        for (int tune : new int[] {-1, 4, LOW, HIGH}) {
            due("UNKNOWN", x.note(tune, -1, 0), UNKNOWN);
        }
    }

    private static void cost() {
        TuneWords x = laid("2-0-", "0121");
        due("oo: FIT 2 and SHORT, FIT 2 and SHORT", costOf(x, "oo"), 6 + 2 + 6 + 2);
        due("ohs: the note that was held is shared", costOf(x, "ohs"), 6 + 2 + 2 + 4 + 6);
        due("osh: no SHORT for s", costOf(x, "osh"), 6 + 2 + 4 + 0 + 2);
        due("the pad stays", x.wipe(), 3);
        setRules(x, 1, 5, 7, 9);
        due("oo by other rules", costOf(x, "oo"), 2 + 9 + 2 + 9);
        due("ohs by other rules", costOf(x, "ohs"), 2 + 9 + 5 + 7 + 2);
        due("osh by other rules", costOf(x, "osh"), 2 + 9 + 7 + 5);
        x = laid("2-0", "0222");
        due("LENGTH 2 is not short", costOf(x, "oo"), 6 + 6);
        x = laid("1", "111223");
        due("one syllable held", costOf(x, "ohh"), 0 + 2 + 2);
        due("none at all", costOf(new TuneWords(), ""), 0);
        x = laid("012012012", "0102030411121314212223");
        due("a long one", costOf(x, "osososososososososhhhhhhh"), NO);
        due("all shared, then all held", costOf(x, "osssssssshhhhhhhhhh"), 8 * 4 + 3 * 9 + 10 * 2);
        due("all held, then all shared", costOf(x, "ohhhhhhhhhhssssssss"), 10 * 2 + 8 * 4 + 3 * (1 + 2 + 1 + 2 + 1));
    }

    private static void costRefused() {
        TuneWords x = laid("2-0-", "0121");
        for (String no : new String[] {"", "o", "h", "s", "hoo", "soo", "ooo", "ooh", "oos", "oh", "os", "ohh", "ohso", "oshs"}) {
            due("no LAYING: " + no, costOf(x, no), NO);
        }
        due("other signs", costOf(x, "oox"), FAULT);
        due("other signs ahead of NO", costOf(x, "hx"), FAULT);
        due("other signs", costOf(x, "O"), FAULT);
        due("UNKNOWN ahead of FAULT", x.cost(3, 0), UNKNOWN);
        due("the pad stays", x.wipe(), 1);
        for (int wrong : new int[] {-1, 4, LOW, HIGH}) {
            due("UNKNOWN", x.cost(wrong, 0), UNKNOWN);
            due("UNKNOWN", x.cost(0, wrong), UNKNOWN);
        }
        due("no notes", x.cost(0, 1), NO);
        due("no syllables", x.cost(1, 0), NO);
        due("neither", x.cost(1, 1), 0);
        due("a step too many", costOf(new TuneWords(), "o"), NO);
    }

    private static void least() {
        dueLeast(laid("2-012", "22011222"), "oooo", 0);
        dueLeast(laid("2", "222222"), "ohh", 4);
        dueLeast(laid("222", "22"), "oss", 8);
        dueLeast(laid("20", "222202"), "oho", 2);
        dueLeast(laid("220", "2202"), "oso", 4);
        TuneWords x = laid("000", "020202");
        setRules(x, 0, 0, 0, 0);
        dueLeast(x, "ooo", 0);
        x = laid("00", "02020202");
        setRules(x, 0, 0, 0, 0);
        dueLeast(x, "oohh", 0);
        x = laid("0000", "0202");
        setRules(x, 0, 0, 0, 0);
        dueLeast(x, "ooss", 0);
        // The second syllable can't be sung by o without SHORT: h goes ahead of s.
        x = laid("00-", "0101");
        setRules(x, 0, 0, 0, 9);
        dueLeast(x, "ohs", 0);
        // .. but by h first the second syllable would be far from its beat.
        x = laid("00-", "0121");
        setRules(x, 1, 0, 0, 9);
        dueLeast(x, "osh", 0);
        dueLeast(new TuneWords(), "", 0);
    }

    private static void leastRefused() {
        TuneWords x = laid("2-012", "22011222");
        due("no LAYING", x.least(0, 1, -1), NONE);
        due("no LAYING", x.least(0, 1, 0), NONE);
        due("no LAYING", x.least(1, 0, -1), NONE);
        due("neither", x.least(1, 1, -1), 0);
        due("neither: no step", x.least(1, 1, 0), NONE);
        due("none such", x.least(0, 0, HIGH), NONE);
        due("none such", x.least(0, 0, 19), NONE);
        due("OUTSIDE", x.least(0, 0, -2), OUTSIDE);
        due("OUTSIDE", x.least(0, 0, LOW), OUTSIDE);
        due("OUTSIDE ahead of NONE", x.least(0, 1, -2), OUTSIDE);
        for (int wrong : new int[] {-1, 4, LOW, HIGH}) {
            due("UNKNOWN", x.least(wrong, 0, -2), UNKNOWN);
            due("UNKNOWN", x.least(0, wrong, -2), UNKNOWN);
        }
        due("UNKNOWN", x.least(3, 0, 0), UNKNOWN);
        sayAll(x, "ooo");
        x.least(0, 0, -1);
        due("the pad stays", x.count(2), 3);
    }

    private static void ways() {
        // o o: 16, o h s: 20, o s h: 14
        TuneWords x = laid("2-0-", "0121");
        due("layings", x.ways(0, 0, 0), 3);
        due("of the least cost", x.ways(0, 0, 1), 1);
        due("the greatest", x.ways(0, 0, 2), 20);
        setRules(x, 0, 0, 0, 0);
        due("all cost the same", x.ways(0, 0, 1), 3);
        due("the greatest", x.ways(0, 0, 2), 0);
        setRules(x, 0, 1, 1, 2);
        due("all cost the same: 4, 4, 4", x.ways(0, 0, 1), 3);
        setRules(x, 0, 1, 1, 1);
        due("oo costs less: 2, 3, 3", x.ways(0, 0, 1), 1);
        setRules(x, 0, 1, 1, 9);
        due("oo costs more: 18, 11, 11", x.ways(0, 0, 1), 2);
        due("the greatest", x.ways(0, 0, 2), 18);
        due("no LAYING", x.ways(0, 1, 0), 0);
        due("no LAYING", x.ways(0, 1, 1), 0);
        due("no LAYING", x.ways(0, 1, 2), NONE);
        due("no LAYING", x.ways(1, 0, 0), 0);
        due("no LAYING", x.ways(1, 0, 1), 0);
        due("no LAYING", x.ways(1, 0, 2), NONE);
        due("neither", x.ways(1, 1, 0), 1);
        due("neither", x.ways(1, 1, 1), 1);
        due("neither", x.ways(1, 1, 2), 0);
        for (int what : new int[] {-1, 3, LOW, HIGH}) {
            due("OUTSIDE", x.ways(0, 0, what), OUTSIDE);
            due("OUTSIDE", x.ways(0, 1, what), OUTSIDE);
            due("UNKNOWN ahead of OUTSIDE", x.ways(3, 0, what), UNKNOWN);
            due("UNKNOWN ahead of OUTSIDE", x.ways(0, 4, what), UNKNOWN);
        }
        due("UNKNOWN", x.ways(-1, 0, 0), UNKNOWN);
        due("UNKNOWN", x.ways(0, -1, 0), UNKNOWN);
        x = laid("000000000", "0202020202020202020202");
        setRules(x, 9, 0, 0, 9);
        due("as many as can be", x.ways(0, 0, 1), 1256465);
        x = laid("2-2-2-2-2-2-2-2-2-", "0101010101010101010101");
        setRules(x, 9, 9, 9, 9);
        due("as dear as can be: 1 o, 8 s, 10 h", x.ways(0, 0, 2), 27 + 8 * 27 + 10 * 9);
    }

    private static void sung() {
        due("asked first: how many", laid("222", "22").sung(0, 0, 0, 1), 3);
        due("asked first: which", laid("20", "2202").sung(0, 0, 1, 0), 1);
        // ohs: note 0 has syllable 0; note 1 has 0, held, and then 1.
        TuneWords x = laid("00-", "0101");
        setRules(x, 0, 0, 0, 9);
        due("first on 0", x.sung(0, 0, 0, 0), 0);
        due("on 0", x.sung(0, 0, 0, 1), 1);
        due("first on 1: the one that is held", x.sung(0, 0, 1, 0), 0);
        due("on 1", x.sung(0, 0, 1, 1), 2);
        // osoh: note 0 has 0 and 1, note 1 has 2, note 2 has 2, held.
        x = laid("220", "220202");
        x.rule(2, 3);
        dueLeast(x, "osoh", 5);
        int[] due = {0, 2, 2, 1, 2, 1};
        for (int at = 0; at < 6; at++) {
            due("sung on " + at / 2, x.sung(0, 0, at / 2, at % 2), due[at]);
        }
        for (int j : new int[] {-1, 3, 11, LOW, HIGH}) {
            due("no such NOTE", x.sung(0, 0, j, 0), OUTSIDE);
        }
        for (int what : new int[] {-1, 2, LOW, HIGH}) {
            due("OUTSIDE", x.sung(0, 0, 0, what), OUTSIDE);
            due("OUTSIDE ahead of NONE", x.sung(1, 0, 0, what), OUTSIDE);
        }
        due("no LAYING", x.sung(1, 0, 0, 0), NONE);
        due("no LAYING", x.sung(1, 0, 2, 1), NONE);
        due("no such NOTE ahead of NONE", x.sung(1, 0, 3, 0), OUTSIDE);
        due("no NOTES", x.sung(0, 1, 0, 0), OUTSIDE);
        due("neither", x.sung(1, 1, 0, 0), OUTSIDE);
        for (int wrong : new int[] {-1, 4, LOW, HIGH}) {
            due("UNKNOWN", x.sung(wrong, 0, -1, 2), UNKNOWN);
            due("UNKNOWN", x.sung(0, wrong, -1, 2), UNKNOWN);
        }
        due("UNKNOWN", x.sung(3, 0, 0, 0), UNKNOWN);
    }

    private static void verse() {
        TuneWords x = laid("2", "0121");
        due("one line: oh", x.verse(0), 6 + 2);
        setLine(x, 2, "02");
        due("two lines: oh, oo", x.verse(0), 8 + 0);
        setLine(x, 1, "2-");
        due("three lines", x.verse(0), 8 + 0 + 10);
        due("no notes", x.verse(1), NONE);
        setTune(x, 1, "22");
        due("another tune: o, o, os", x.verse(1), 0 + 0 + 6 + 4);
        setLine(x, 0, "");
        due("a line without syllables adds nothing", x.verse(1), 0 + 6 + 4);
        setLine(x, 1, "");
        setLine(x, 2, "");
        due("no syllables", x.verse(1), NONE);
        due("neither", x.verse(2), NONE);
        for (int tune : new int[] {-1, 4, LOW, HIGH}) {
            due("UNKNOWN", x.verse(tune), UNKNOWN);
        }
    }

    private static void best() {
        TuneWords x = new TuneWords();
        due("no tune has one", x.best(0), NONE);
        due("no tune has one", x.best(1), NONE);
        setTune(x, 1, "11");
        due("no line has syllables", x.best(0), NONE);
        setLine(x, 1, "2");
        due("the only one", x.best(0), 1);
        due("its verse", x.best(1), 3);
        setTune(x, 3, "24");
        due("a better one", x.best(0), 3);
        due("its verse", x.best(1), 0);
        setTune(x, 2, "23");
        due("of several the least", x.best(0), 2);
        setTune(x, 0, "01");
        due("a worse one", x.best(0), 2);
        setTune(x, 0, "21");
        due("of several the least", x.best(0), 0);
        due("its verse", x.best(1), 0);
        for (int what : new int[] {-1, 2, LOW, HIGH}) {
            due("OUTSIDE", x.best(what), OUTSIDE);
            due("OUTSIDE ahead of NONE", new TuneWords().best(what), OUTSIDE);
        }
    }

    private static void turned() {
        TuneWords x = laid("201", "110121");
        // as it is 3 + 0 + 3; by 1 (0 2 1): 6 + 6 + 0 or less; by 2 (2 1 0): 0 + 3 + 3
        due("of several the least", x.turned(0, 0, 0), 0);
        due("its cost", x.turned(0, 0, 1), 6);
        setTune(x, 0, "112101");
        due("by 1: 2 0 1", x.turned(0, 0, 0), 1);
        due("its cost", x.turned(0, 0, 1), 0);
        due("the tune stays", x.note(0, 0, 0), 1);
        setTune(x, 0, "011121");
        due("by 2: 2 0 1", x.turned(0, 0, 0), 2);
        setLine(x, 0, "1-");
        setTune(x, 0, "1114");
        due("lengths turn, too", x.turned(0, 0, 0), 1);
        due("its cost", x.turned(0, 0, 1), 2);
        due("no notes", x.turned(0, 1, 0), NONE);
        due("no syllables", x.turned(1, 0, 1), NONE);
        due("neither", x.turned(1, 1, 0), NONE);
        due("neither", x.turned(1, 1, 1), NONE);
        for (int what : new int[] {-1, 2, LOW, HIGH}) {
            due("OUTSIDE", x.turned(0, 0, what), OUTSIDE);
            due("OUTSIDE ahead of NONE", x.turned(1, 1, what), OUTSIDE);
            due("UNKNOWN ahead of OUTSIDE", x.turned(3, 0, what), UNKNOWN);
            due("UNKNOWN ahead of OUTSIDE", x.turned(0, 4, what), UNKNOWN);
        }
        due("UNKNOWN", x.turned(-1, 0, 0), UNKNOWN);
        due("UNKNOWN", x.turned(0, -1, 0), UNKNOWN);
    }

    private static void dueAnew(TuneWords x, int syllable, int stress, int cost) {
        due("anew 0", x.anew(0, 0, 0), syllable);
        due("anew 1", x.anew(0, 0, 1), stress);
        due("anew 2", x.anew(0, 0, 2), cost);
    }

    private static void anew() {
        dueAnew(laid("111", "112122"), 1, 2, 3);
        dueAnew(laid("101", "121212"), 1, 1, 0);
        dueAnew(laid("020", "020202"), 1, 0, 0);
        dueAnew(laid("00", "2222"), 0, 2, 6);
        dueAnew(laid("012", "020222"), 1, 0, 0);
        dueAnew(laid("0", "02"), NONE, NONE, NONE);
        dueAnew(laid("0-", "01"), NONE, NONE, NONE);
        dueAnew(laid("", "01"), NONE, NONE, NONE);
        dueAnew(laid("0", ""), NONE, NONE, NONE);
        dueAnew(laid("", ""), NONE, NONE, NONE);
        TuneWords x = laid("00", "2222");
        setRules(x, 0, 2, 4, 2);
        dueAnew(x, NONE, NONE, NONE);
        // The second syllable shares the one note with the first, of beat 1: either may be anew.
        dueAnew(laid("00", "12"), 0, 1, 7);
        x = laid("2-1", "2112");
        dueAnew(x, NONE, NONE, NONE);
        x = laid("0-1", "2112");
        dueAnew(x, 0, 2, 2);
        due("the line stays", x.syllable(0, 0, 0), 0);
        due("the line stays", x.syllable(0, 0, 1), 1);
        due("its cost stays", x.least(0, 0, -1), 8);
        for (int what : new int[] {-1, 3, LOW, HIGH}) {
            due("OUTSIDE", x.anew(0, 0, what), OUTSIDE);
            due("OUTSIDE ahead of NONE", x.anew(1, 1, what), OUTSIDE);
            due("UNKNOWN ahead of OUTSIDE", x.anew(3, 0, what), UNKNOWN);
            due("UNKNOWN ahead of OUTSIDE", x.anew(0, 4, what), UNKNOWN);
        }
        due("UNKNOWN", x.anew(-1, 0, 0), UNKNOWN);
        due("UNKNOWN", x.anew(0, -1, 0), UNKNOWN);
    }

    private static void image() {
        TuneWords x = laid("2-0", "1422");
        for (int k : new int[] {-1, 2, LOW, HIGH}) {
            due("OUTSIDE", x.image(k), OUTSIDE);
        }
        due("none is kept", x.count(4), 0);
        due("image 1", x.image(1), 1);
        due("1 is kept", x.count(4), 2);
        due("0 is not", x.restore(0), STATE);
        due("image 0", x.image(0), 1);
        due("both are kept", x.count(4), 3);
        setLine(x, 0, "111");
        due("in place of what was kept", x.image(0), 1);
        setLine(x, 0, "");
        x.restore(0);
        due("the newer", x.count(0), 3);
        x.restore(1);
        due("the older", x.count(0), 2);
        sayAll(x, "abc");
        x.image(0);
        due("the pad stays", x.count(2), 3);
    }

    private static void restore() {
        TuneWords x = laid("2-0", "1422");
        setLine(x, 2, "1");
        setTune(x, 3, "2311");
        setRules(x, 9, 8, 7, 6);
        for (int k : new int[] {-1, 2, LOW, HIGH}) {
            due("OUTSIDE", x.restore(k), OUTSIDE);
        }
        due("STATE", x.restore(0), STATE);
        due("STATE", x.restore(1), STATE);
        x.image(0);
        setLine(x, 0, "0120");
        setLine(x, 1, "01");
        setLine(x, 2, "");
        setTune(x, 0, "");
        setTune(x, 2, "01");
        setTune(x, 3, "01");
        setRules(x, 0, 0, 0, 0);
        x.image(1);
        sayAll(x, "xy");
        for (int again = 0; again < 2; again++) {
            due("restore", x.restore(0), 1);
            due("the pad stays", x.count(2), 2);
            due("images stay", x.count(4), 3);
            due("lines", x.syllable(0, -1, 0) * 100 + x.syllable(1, -1, 0) * 10 + x.syllable(2, -1, 0), 201);
            due("stress", x.syllable(0, 0, 0), 2);
            due("long", x.syllable(0, 0, 1), 1);
            due("stress", x.syllable(2, 0, 0), 1);
            due("tunes", x.note(0, -1, 0) * 100 + x.note(2, -1, 0) * 10 + x.note(3, -1, 0), 202);
            due("beat", x.note(3, 0, 0), 2);
            due("length", x.note(3, 0, 1), 3);
            for (int what = 0; what < 4; what++) {
                due("rule " + what, x.count(10 + what), 9 - what);
            }
            setRules(x, 1, 1, 1, 1);
            x.wipe();
            sayAll(x, "2");
            due("a change behind it leaves the image", x.line(0), 1);
            sayAll(x, "xy");
        }
        due("the other image", x.restore(1), 1);
        due("lines", x.count(0), 6);
        due("rules", x.count(10), 0);
    }

    private static void count() {
        TuneWords x = laid("2-0", "1422");
        setLine(x, 2, "12-1");
        setTune(x, 3, "231104");
        sayAll(x, "abcd");
        x.image(1);
        int[] due = {5, 5, 4, 4 + 2 + 3 + 1 + 4, 2};
        for (int what = 0; what < 5; what++) {
            due("count " + what, x.count(what), due[what]);
        }
        setRules(x, 9, 0, 5, 1);
        int[] rules = {9, 0, 5, 1};
        for (int what = 0; what < 4; what++) {
            due("count " + (10 + what), x.count(10 + what), rules[what]);
        }
        for (int what : new int[] {-1, 5, 9, 14, LOW, HIGH}) {
            due("count " + what, x.count(what), OUTSIDE);
        }
        x.image(0);
        due("both images", x.count(4), 3);
        setTune(x, 3, "");
        due("fewer lengths", x.count(3), 6);
    }
}
