/** Promises 1 to 9, sentence by sentence: the ends of each range, empty and full, what is refused. */
public final class EdgeLinesTest {
    private static final int UNKNOWN = -1, OUTSIDE = -2, STATE = -3, FULL = -4, NONE = -6, FAULT = -7;
    private static final int LOW = Integer.MIN_VALUE, HIGH = Integer.MAX_VALUE;
    private static final Edges EDGES = new Edges("EdgeLinesTest");

    public static void main(String[] args) {
        EDGES.runAll(EdgeLinesTest.class, "promise01NewObject", "promise02Say", "promise03Wipe", "promise04Fault",
                "promise05Line", "promise06Tune", "promise07Rule", "promise08Syllable", "promise09Note");
    }

    private static void due(String call, int got, int want) {
        EDGES.due(call, got, want);
    }

    // ---- promise 1: "No SYLLABLES, no NOTES; THE PAD is empty; no IMAGE is kept."

    static void promise01NewObjectHasNoSyllables() {
        TuneWords x = new TuneWords();
        for (int line = 0; line <= 2; line++) {
            due("how many in line " + line, x.syllable(line, -1, 0), 0);
            due("syllable 0 of line " + line, x.syllable(line, 0, 0), NONE);
        }
        due("in all lines", x.count(0), 0);
    }

    static void promise01NewObjectHasNoNotes() {
        TuneWords x = new TuneWords();
        for (int tune = 0; tune <= 3; tune++) {
            due("how many in tune " + tune, x.note(tune, -1, 0), 0);
            due("note 0 of tune " + tune, x.note(tune, 0, 1), NONE);
        }
        due("in all tunes", x.count(1), 0);
        due("lengths of all", x.count(3), 0);
    }

    static void promise01NewObjectHasEmptyPad() {
        due("signs", new TuneWords().count(2), 0);
        due("wipe", new TuneWords().wipe(), 0);
        due("the first sign", new TuneWords().say('0'), 1);
    }

    static void promise01NewObjectKeepsNoImage() {
        TuneWords x = new TuneWords();
        due("images", x.count(4), 0);
        due("restore 0", x.restore(0), STATE);
        due("restore 1", x.restore(1), STATE);
    }

    static void promise01NewObjectHasTheRulesAtFirst() {
        TuneWords x = new TuneWords();
        int[] first = {3, 2, 4, 2};
        for (int what = 0; what < 4; what++) {
            due("rule " + what, x.count(10 + what), first[what]);
        }
    }

    static void promise01NewObjectSharesNothingWithAnother() {
        TuneWords other = new TuneWords();
        Edges.leadToAllFull(other);
        TuneWords x = new TuneWords();
        for (int what = 0; what <= 4; what++) {
            due("count " + what, x.count(what), 0);
        }
        due("rule 0", x.count(10), 3);
        due("restore 0", x.restore(0), STATE);
        due("the other's syllables", other.count(0), 27);
    }

    // ---- promise 2: "A sign more on THE PAD: how many. OUTSIDE: it is not 33 to 126; FULL: there are 22."

    static void promise02SayTellsHowMany() {
        TuneWords x = new TuneWords();
        for (int many = 1; many <= 22; many++) {
            due("say", x.say('0'), many);
            due("signs", x.count(2), many);
        }
    }

    static void promise02SayTakesEverySignFrom33To126() {
        for (int sign = 33; sign <= 126; sign++) {
            TuneWords x = new TuneWords();
            due("say " + sign, x.say(sign), 1);
            due("it is a line", x.fault(0), sign >= '0' && sign <= '2' ? NONE : 0);
        }
    }

    static void promise02SayOutside() {
        for (int sign : Edges.beside(33, 126)) {
            EDGES.refused("say " + sign, x -> x.say(sign), OUTSIDE);
        }
        EDGES.refused("say 0", x -> x.say(0), OUTSIDE);
        EDGES.refused("say 10", x -> x.say(10), OUTSIDE);
    }

    static void promise02SayFull() {
        for (int sign : new int[] {33, '0', 'o', 126}) {
            EDGES.refused("say " + sign, "22 signs", x -> Edges.sayAll(x, Edges.ELEVEN), x -> x.say(sign), FULL);
            EDGES.refused("say " + sign, "all full", Edges::leadToAllFull, x -> x.say(sign), FULL);
        }
    }

    static void promise02SayTakesThe22nd() {
        TuneWords x = Edges.withPad("x".repeat(21));
        due("the 22nd", x.say(126), 22);
        due("the 23rd", x.say(33), FULL);
        due("there are 22", x.wipe(), 22);
        due("there is room again", x.say(33), 1);
    }

    static void promise02SayOutsideAheadOfFull() {
        for (int sign : Edges.beside(33, 126)) {
            EDGES.refused("say " + sign, "22 signs", x -> Edges.sayAll(x, Edges.ELEVEN), x -> x.say(sign), OUTSIDE);
        }
    }

    static void promise02SayThereIsRoomBehindLineAndTune() {
        TuneWords x = Edges.withPad(Edges.ELEVEN);
        due("full", x.say('0'), FULL);
        x.tune(0);
        due("behind tune", x.say('0'), 1);
        x.line(0);
        due("behind line", x.say('0'), 1);
    }

    // ---- promise 3: "THE PAD is empty: how many signs it had."

    static void promise03WipeTellsHowManyItHad() {
        for (int many = 0; many <= 22; many++) {
            TuneWords x = Edges.withPad("a".repeat(many));
            due("wipe " + many, x.wipe(), many);
            due("signs behind it", x.count(2), 0);
            due("wipe again", x.wipe(), 0);
            due("no fault as a line", x.fault(0), NONE);
            due("no fault as a tune", x.fault(1), NONE);
        }
    }

    static void promise03WipeCountsNoRefusedSign() {
        TuneWords x = Edges.withPad("a".repeat(22));
        x.say('a');
        x.say(32);
        due("wipe", x.wipe(), 22);
    }

    static void promise03WipeLeavesAllElse() {
        EDGES.alike("a pad that was wiped", x -> {
            Edges.leadToAllFull(x);
            x.wipe();
            Edges.sayAll(x, "abc");
            x.wipe();
        }, x -> {
            Edges.leadToAllFull(x);
            x.tune(2);
        });
    }

    // ---- promise 4: "THE FAULT of THE PAD as a LINE (how = 0), a TUNE (1); NONE. OUTSIDE."

    private static int faultOf(String signs, int how) {
        return Edges.withPad(signs).fault(how);
    }

    static void promise04FaultOutside() {
        for (int how : Edges.beside(0, 1)) {
            EDGES.refused("fault " + how, x -> x.fault(how), OUTSIDE);
        }
    }

    static void promise04FaultChangesNothing() {
        EDGES.changesNothing("fault 0", x -> x.fault(0));
        EDGES.changesNothing("fault 1", x -> x.fault(1));
    }

    static void promise04FaultNoneWithoutSigns() {
        due("as a line", faultOf("", 0), NONE);
        due("as a tune", faultOf("", 1), NONE);
    }

    /** Every sign behind what stands ahead: those that can stand there make no fault at that place. */
    private static void everySignBehind(String ahead, String canStand, int how, int dueIfItStands) {
        for (char sign = 33; sign <= 126; sign++) {
            int want = canStand.indexOf(sign) >= 0 ? dueIfItStands : ahead.length();
            due("fault " + how + " of " + ahead + sign, faultOf(ahead + sign, how), want);
        }
    }

    static void promise04FaultAsLineEverySign() {
        everySignBehind("", "012", 0, NONE);
        everySignBehind("0", "012-", 0, NONE);
        everySignBehind("2", "012-", 0, NONE);
        everySignBehind("1-", "012", 0, NONE);
        everySignBehind("1-2", "012-", 0, NONE);
        everySignBehind("01201201", "012-", 0, NONE);
    }

    static void promise04FaultAsLineBeyondNineSyllables() {
        due("nine", faultOf(Edges.NINE, 0), NONE);
        due("nine long ones", faultOf(Edges.NINE_LONG, 0), NONE);
        everySignBehind(Edges.NINE, "-", 0, NONE);
        everySignBehind(Edges.NINE + "-", "", 0, NONE);
        everySignBehind(Edges.NINE_LONG, "", 0, NONE);
        due("22 figures", faultOf("1".repeat(22), 0), 9);
        due("ten long ones", faultOf("1-".repeat(10), 0), 18);
        due("eleven long ones", faultOf("1-".repeat(11), 0), 18);
    }

    static void promise04FaultAsTuneEverySign() {
        everySignBehind("", "012", 1, 1);
        everySignBehind("0", "1234", 1, NONE);
        everySignBehind("2", "1234", 1, NONE);
        everySignBehind("04", "012", 1, 3);
        everySignBehind("0421", "012", 1, 5);
        everySignBehind("01020304111213142122", "012", 1, 21);
        everySignBehind("010203041112131421222", "1234", 1, NONE);
    }

    static void promise04FaultAsTuneMoreMustCome() {
        for (int many = 0; many <= 22; many++) {
            String signs = Edges.ELEVEN.substring(0, many);
            due("fault of " + many + " signs", faultOf(signs, 1), many % 2 == 0 ? NONE : many);
        }
    }

    static void promise04FaultAsTuneAllElevenNotes() {
        due("eleven notes fill the pad", faultOf(Edges.ELEVEN, 1), NONE);
        TuneWords x = Edges.withPad(Edges.ELEVEN);
        due("a twelfth has no room", x.say('0'), FULL);
        due("no fault by it", x.fault(1), NONE);
    }

    static void promise04FaultIsTheFirst() {
        due("of two as a line", faultOf("1x-y", 0), 1);
        due("of two as a tune", faultOf("01x1y", 1), 2);
        due("ahead of more that must come", faultOf("011x0", 1), 3);
        due("at the first sign", faultOf("x", 1), 0);
        due("at the last of 22", faultOf(Edges.ELEVEN.substring(0, 21) + "5", 1), 21);
        due("the tenth behind a fault", faultOf("--" + Edges.NINE, 0), 0);
        due("a fault behind the tenth", faultOf(Edges.NINE + "0x", 0), 9);
    }

    static void promise04FaultBehindAChange() {
        TuneWords x = Edges.withPad("0");
        due("more must come", x.fault(1), 1);
        x.say('1');
        due("it has come", x.fault(1), NONE);
        x.say('9');
        due("one that can not stand there", x.fault(1), 2);
        due("as a line", x.fault(0), 2);
        x.wipe();
        due("wiped", x.fault(1), NONE);
    }

    // ---- promise 5: "A LINE is that on THE PAD, which is empty then: how many SYLLABLES. UNKNOWN; FAULT."

    static void promise05LineUnknown() {
        for (int line : Edges.NO_LINES) {
            EDGES.refused("line " + line, x -> x.line(line), UNKNOWN);
        }
    }

    static void promise05LineFault() {
        for (String signs : new String[] {"-", "3", "/", "1--", "-1", "12x", "o", Edges.NINE + "0", Edges.NINE_LONG + "1",
            Edges.NINE + "--", "1".repeat(22), "01x"}) {
            for (int line = 0; line <= 2; line++) {
                int which = line;
                EDGES.refused("line " + line, "a pad of " + signs, x -> {
                    Edges.setLine(x, which, "2-1");
                    x.image(0);
                    Edges.sayAll(x, signs);
                }, x -> x.line(which), FAULT);
            }
        }
    }

    static void promise05LineUnknownAheadOfFault() {
        for (int line : Edges.NO_LINES) {
            EDGES.refused("line " + line, "a pad of 1--", x -> Edges.sayAll(x, "1--"), x -> x.line(line), UNKNOWN);
        }
    }

    static void promise05LineFromNoneToNine() {
        for (int line = 0; line <= 2; line++) {
            for (int many = 0; many <= 9; many++) {
                TuneWords x = Edges.withPad(Edges.NINE.substring(0, many));
                due("line of " + many, x.line(line), many);
                due("how many there are", x.syllable(line, -1, 0), many);
                due("the pad is empty then", x.count(2), 0);
                x = Edges.withPad(Edges.NINE_LONG.substring(0, 2 * many));
                due("line of " + many + " long ones", x.line(line), many);
                due("the pad is empty then", x.wipe(), 0);
            }
        }
    }

    static void promise05LineTenSyllables() {
        TuneWords x = Edges.withPad(Edges.NINE);
        x.say('1');
        due("ten", x.line(0), FAULT);
        due("the pad stays", x.count(2), 10);
        due("no syllables", x.count(0), 0);
    }

    static void promise05LineHasEachStressLongOrNot() {
        TuneWords x = Edges.withPad("0-01-12-2");
        due("line 0", x.line(0), 6);
        for (int i = 0; i < 6; i++) {
            due("stress of " + i, x.syllable(0, i, 0), i / 2);
            due("whether " + i + " is long", x.syllable(0, i, 1), i % 2 == 0 ? 1 : 0);
        }
    }

    static void promise05LineOfTheEmptyPad() {
        TuneWords x = new TuneWords();
        Edges.setLine(x, 1, Edges.NINE_LONG);
        due("line 1", x.line(1), 0);
        due("it has none", x.syllable(1, -1, 0), 0);
        due("nor a first one", x.syllable(1, 0, 0), NONE);
        due("again", x.line(1), 0);
    }

    static void promise05LineLeavesNoTraceOfTheOneBefore() {
        EDGES.alike("a line in place of a longer one", x -> {
            Edges.setLine(x, 2, Edges.NINE_LONG);
            Edges.setLine(x, 2, "102");
        }, x -> Edges.setLine(x, 2, "102"));
        EDGES.alike("a line in place of a shorter one", x -> {
            Edges.setLine(x, 2, "2-");
            Edges.setLine(x, 2, Edges.NINE);
        }, x -> Edges.setLine(x, 2, Edges.NINE));
    }

    static void promise05LineLeavesTheOthersAndTheImages() {
        EDGES.alike("a line that is set and set back", x -> {
            Edges.leadToAllFull(x);
            Edges.setLine(x, 1, "2-");
            Edges.setLine(x, 1, Edges.NINE);
        }, x -> {
            Edges.leadToAllFull(x);
            x.wipe();
        });
    }

    // ---- promise 6: "A TUNE is that on THE PAD, which is empty then: how many NOTES. UNKNOWN; FAULT."

    static void promise06TuneUnknown() {
        for (int tune : Edges.NO_TUNES) {
            EDGES.refused("tune " + tune, x -> x.tune(tune), UNKNOWN);
        }
    }

    static void promise06TuneFault() {
        for (String signs : new String[] {"0", "3", "31", "/1", "00", "05", "01-", "1-", "012", "0131", "oo",
            Edges.ELEVEN.substring(0, 21), Edges.ELEVEN.substring(0, 21) + "0", Edges.ELEVEN.substring(0, 21) + "5"}) {
            for (int tune = 0; tune <= 3; tune++) {
                int which = tune;
                EDGES.refused("tune " + tune, "a pad of " + signs, x -> {
                    Edges.setTune(x, which, "2411");
                    x.image(1);
                    Edges.sayAll(x, signs);
                }, x -> x.tune(which), FAULT);
            }
        }
    }

    static void promise06TuneUnknownAheadOfFault() {
        for (int tune : Edges.NO_TUNES) {
            EDGES.refused("tune " + tune, "a pad of 0", x -> Edges.sayAll(x, "0"), x -> x.tune(tune), UNKNOWN);
        }
    }

    static void promise06TuneFromNoneToEleven() {
        for (int tune = 0; tune <= 3; tune++) {
            for (int many = 0; many <= 11; many++) {
                TuneWords x = Edges.withPad(Edges.ELEVEN.substring(0, 2 * many));
                due("tune of " + many, x.tune(tune), many);
                due("how many there are", x.note(tune, -1, 0), many);
                due("the pad is empty then", x.count(2), 0);
            }
        }
    }

    static void promise06TuneHasEachBeatAndLength() {
        for (int beat = 0; beat <= 2; beat++) {
            TuneWords x = Edges.withPad("" + beat + 1 + beat + 2 + beat + 3 + beat + 4);
            due("tune 3", x.tune(3), 4);
            for (int i = 0; i < 4; i++) {
                due("beat of " + i, x.note(3, i, 0), beat);
                due("length of " + i, x.note(3, i, 1), i + 1);
            }
        }
    }

    static void promise06TuneOfTheEmptyPad() {
        TuneWords x = new TuneWords();
        Edges.setTune(x, 2, Edges.ELEVEN);
        due("tune 2", x.tune(2), 0);
        due("it has none", x.note(2, -1, 0), 0);
        due("nor a first one", x.note(2, 0, 0), NONE);
        due("again", x.tune(2), 0);
    }

    static void promise06TuneLeavesNoTraceOfTheOneBefore() {
        EDGES.alike("a tune in place of a longer one", x -> {
            Edges.setTune(x, 0, Edges.ELEVEN);
            Edges.setTune(x, 0, "2411");
        }, x -> Edges.setTune(x, 0, "2411"));
        EDGES.alike("a tune in place of a shorter one", x -> {
            Edges.setTune(x, 0, "24");
            Edges.setTune(x, 0, Edges.ELEVEN);
        }, x -> Edges.setTune(x, 0, Edges.ELEVEN));
    }

    static void promise06TuneLeavesTheOthersAndTheImages() {
        EDGES.alike("a tune that is set and set back", x -> {
            Edges.leadToAllFull(x);
            Edges.setTune(x, 2, "01");
            Edges.setTune(x, 2, Edges.ELEVEN);
        }, x -> {
            Edges.leadToAllFull(x);
            x.wipe();
        });
    }

    // ---- promise 7: "A RULE is v: which it was. OUTSIDE: both."

    static void promise07RuleTakesEachFrom0To9() {
        int[] first = {3, 2, 4, 2};
        for (int what = 0; what <= 3; what++) {
            TuneWords x = new TuneWords();
            int was = first[what];
            for (int v = 0; v <= 9; v++) {
                due("rule " + what + " " + v, x.rule(what, v), was);
                due("it is " + v, x.count(10 + what), v);
                was = v;
            }
            due("to what it is", x.rule(what, 9), 9);
            due("back to 0", x.rule(what, 0), 9);
            for (int other = 0; other <= 3; other++) {
                due("rule " + other, x.count(10 + other), other == what ? 0 : first[other]);
            }
        }
    }

    static void promise07RuleOutsideWhat() {
        for (int what : Edges.beside(0, 3)) {
            EDGES.refused("rule " + what + " 0", x -> x.rule(what, 0), OUTSIDE);
            EDGES.refused("rule " + what + " 9", x -> x.rule(what, 9), OUTSIDE);
        }
    }

    static void promise07RuleOutsideV() {
        for (int v : Edges.beside(0, 9)) {
            for (int what = 0; what <= 3; what++) {
                int which = what;
                EDGES.refused("rule " + what + " " + v, x -> x.rule(which, v), OUTSIDE);
            }
        }
    }

    static void promise07RuleOutsideBoth() {
        EDGES.refused("rule 4 10", x -> x.rule(4, 10), OUTSIDE);
        EDGES.refused("rule -1 -1", x -> x.rule(-1, -1), OUTSIDE);
        EDGES.refused("rule LOW HIGH", x -> x.rule(LOW, HIGH), OUTSIDE);
    }

    // ---- promise 8: "STRESS (what = 0), whether it is long (1: 1, 0); i = -1: how many there are; NONE: there
    // is none such (i below -1, too). UNKNOWN; OUTSIDE: what."

    static void promise08SyllableUnknown() {
        for (int line : Edges.NO_LINES) {
            EDGES.refused("syllable " + line + " 0 0", x -> x.syllable(line, 0, 0), UNKNOWN);
            EDGES.refused("syllable " + line + " -1 1", x -> x.syllable(line, -1, 1), UNKNOWN);
        }
    }

    static void promise08SyllableOutsideWhat() {
        for (int what : Edges.beside(0, 1)) {
            for (int i : new int[] {-1, 0, 8, 9, -2, LOW, HIGH}) {
                EDGES.refused("syllable 0 " + i + " " + what, x -> x.syllable(0, i, what), OUTSIDE);
                EDGES.refused("syllable 2 " + i + " " + what, x -> x.syllable(2, i, what), OUTSIDE);
            }
        }
    }

    static void promise08SyllableUnknownAheadOfOutside() {
        for (int line : Edges.NO_LINES) {
            for (int what : new int[] {-1, 2, LOW, HIGH}) {
                EDGES.refused("syllable " + line + " -2 " + what, x -> x.syllable(line, -2, what), UNKNOWN);
            }
        }
    }

    static void promise08SyllableNoneSuch() {
        for (int many = 0; many <= 9; many++) {
            TuneWords x = Edges.withPad(Edges.NINE_LONG.substring(0, 2 * many));
            x.line(2);
            for (int what = 0; what <= 1; what++) {
                for (int i : Edges.beside(-1, many - 1)) {
                    due("syllable " + i + " of " + many, x.syllable(2, i, what), NONE);
                }
                due("how many", x.syllable(2, -1, what), many);
                due("the last", x.syllable(2, many - 1, what), many == 0 ? 0 : what == 0 ? (many - 1) % 3 : 1);
            }
        }
    }

    static void promise08SyllableOfEachPlace() {
        for (int line = 0; line <= 2; line++) {
            TuneWords x = Edges.withPad("0-12-012-012");
            due("nine", x.line(line), 9);
            for (int i = 0; i < 9; i++) {
                due("stress of " + i, x.syllable(line, i, 0), i % 3);
                due("whether " + i + " is long", x.syllable(line, i, 1), i == 0 || i == 2 || i == 5 ? 1 : 0);
            }
        }
    }

    static void promise08SyllableChangesNothing() {
        for (int i : new int[] {-2, -1, 0, 8, 9}) {
            EDGES.changesNothing("syllable 0 " + i, x -> x.syllable(0, i, 0));
            EDGES.changesNothing("syllable 2 " + i, x -> x.syllable(2, i, 1));
        }
    }

    // ---- promise 9: "BEAT (what = 0), LENGTH (1); i = -1: how many there are; NONE: there is none such (i below
    // -1, too). UNKNOWN; OUTSIDE: what."

    static void promise09NoteUnknown() {
        for (int tune : Edges.NO_TUNES) {
            EDGES.refused("note " + tune + " 0 0", x -> x.note(tune, 0, 0), UNKNOWN);
            EDGES.refused("note " + tune + " -1 1", x -> x.note(tune, -1, 1), UNKNOWN);
        }
    }

    static void promise09NoteOutsideWhat() {
        for (int what : Edges.beside(0, 1)) {
            for (int i : new int[] {-1, 0, 10, 11, -2, LOW, HIGH}) {
                EDGES.refused("note 0 " + i + " " + what, x -> x.note(0, i, what), OUTSIDE);
                EDGES.refused("note 3 " + i + " " + what, x -> x.note(3, i, what), OUTSIDE);
            }
        }
    }

    static void promise09NoteUnknownAheadOfOutside() {
        for (int tune : Edges.NO_TUNES) {
            for (int what : new int[] {-1, 2, LOW, HIGH}) {
                EDGES.refused("note " + tune + " -2 " + what, x -> x.note(tune, -2, what), UNKNOWN);
            }
        }
    }

    static void promise09NoteNoneSuch() {
        for (int many = 0; many <= 11; many++) {
            TuneWords x = Edges.withPad("24".repeat(many));
            x.tune(3);
            for (int what = 0; what <= 1; what++) {
                for (int i : Edges.beside(-1, many - 1)) {
                    due("note " + i + " of " + many, x.note(3, i, what), NONE);
                }
                due("how many", x.note(3, -1, what), many);
                due("the last", x.note(3, many - 1, what), many == 0 ? 0 : what == 0 ? 2 : 4);
            }
        }
    }

    static void promise09NoteOfEachPlace() {
        for (int tune = 0; tune <= 3; tune++) {
            TuneWords x = Edges.withPad(Edges.ELEVEN);
            due("eleven", x.tune(tune), 11);
            for (int i = 0; i < 11; i++) {
                due("beat of " + i, x.note(tune, i, 0), i / 4);
                due("length of " + i, x.note(tune, i, 1), i % 4 + 1);
            }
        }
    }

    static void promise09NoteChangesNothing() {
        for (int i : new int[] {-2, -1, 0, 10, 11}) {
            EDGES.changesNothing("note 0 " + i, x -> x.note(0, i, 0));
            EDGES.changesNothing("note 3 " + i, x -> x.note(3, i, 1));
        }
    }
}
