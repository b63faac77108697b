/** Promises 10 to 13, sentence by sentence: the ends of each range, empty and full, what is refused. */
public final class EdgeLayingsTest {
    private static final int UNKNOWN = -1, OUTSIDE = -2, NO = -5, NONE = -6, FAULT = -7;
    private static final int LOW = Integer.MIN_VALUE, HIGH = Integer.MAX_VALUE;
    private static final Edges EDGES = new Edges("EdgeLayingsTest");

    public static void main(String[] args) {
        EDGES.runAll(EdgeLayingsTest.class, "promise10Cost", "promise11Least", "promise12Ways", "promise13Sung");
    }

    private static void due(String call, int got, int want) {
        EDGES.due(call, got, want);
    }

    /** All long on notes of length 1: where only SHORT costs, by LEAST the first alone is sung by o. */
    private static TuneWords allShort(int syllables, int notes) {
        return Edges.laid("1-".repeat(syllables), "11".repeat(notes), 0, 0, 0, 9);
    }

    /** All of them go by o as far as they can, as no step costs anything. */
    private static TuneWords allFree(int syllables, int notes) {
        return Edges.laid("1-".repeat(syllables), "11".repeat(notes), 0, 0, 0, 0);
    }

    private static String leastOf(TuneWords x) {
        StringBuilder steps = new StringBuilder();
        int step = x.least(0, 0, 0);
        while (step >= 0 && step <= 2 && steps.length() < 30) {
            steps.append("ohs".charAt(step));
            step = x.least(0, 0, steps.length());
        }
        due("the step behind the last", step, NONE);
        return steps.toString();
    }

    // ---- promise 10: "COST of the LAYING of a LINE on a TUNE that THE PAD tells, as a row of o, h and s. UNKNOWN:
    // both; FAULT: it has other signs; NO: it is no LAYING."

    static void promise10CostUnknown() {
        for (int line : Edges.NO_LINES) {
            EDGES.refused("cost " + line + " 0", x -> x.cost(line, 0), UNKNOWN);
            EDGES.refused("cost " + line + " 3", x -> x.cost(line, 3), UNKNOWN);
        }
        for (int tune : Edges.NO_TUNES) {
            EDGES.refused("cost 0 " + tune, x -> x.cost(0, tune), UNKNOWN);
            EDGES.refused("cost 2 " + tune, x -> x.cost(2, tune), UNKNOWN);
            EDGES.refused("cost 3 " + tune, x -> x.cost(3, tune), UNKNOWN);
        }
    }

    static void promise10CostFaultByEveryOtherSign() {
        for (char sign = 33; sign <= 126; sign++) {
            boolean isStep = sign == 'o' || sign == 'h' || sign == 's';
            TuneWords x = Edges.laid("1", "12");
            due("cost of " + sign, Edges.costOf(x, "" + sign), sign == 'o' ? 0 : isStep ? NO : FAULT);
            due("cost of o" + sign, Edges.costOf(x, "o" + sign), isStep ? NO : FAULT);
            due("cost of " + sign + "o", Edges.costOf(x, sign + "o"), isStep ? NO : FAULT);
            due("as the 22nd", Edges.costOf(x, "o".repeat(21) + sign), isStep ? NO : FAULT);
            due("without notes", new TuneWords().cost(0, 0), 0);
        }
    }

    static void promise10CostFaultChangesNothing() {
        for (String signs : new String[] {"x", "ox", "xo", "O", "o0", "2-01", "0121", "o".repeat(21) + "n"}) {
            EDGES.refused("cost 0 0", "a pad of " + signs, x -> {
                Edges.setLine(x, 0, "2-0");
                Edges.setTune(x, 0, "0121");
                Edges.sayAll(x, signs);
            }, x -> x.cost(0, 0), FAULT);
        }
    }

    static void promise10CostNo() {
        for (String signs : new String[] {"", "o", "h", "s", "hoo", "soo", "ho", "so", "ooo", "ooh", "oos", "oh", "os",
            "ohh", "oss", "ohso", "oshs", "ohsh", "oshh", "o".repeat(22), "o" + "h".repeat(21)}) {
            EDGES.refused("cost 0 0", "a pad of " + signs, x -> {
                Edges.setLine(x, 0, "2-0");
                Edges.setTune(x, 0, "0121");
                Edges.sayAll(x, signs);
            }, x -> x.cost(0, 0), NO);
        }
    }

    static void promise10CostNoWithoutSyllablesOrNotes() {
        for (String signs : new String[] {"", "o", "h", "s", "oh", "os"}) {
            EDGES.refused("cost 0 0", "syllables alone, a pad of " + signs, x -> {
                Edges.setLine(x, 0, "1");
                Edges.sayAll(x, signs);
            }, x -> x.cost(0, 0), NO);
            EDGES.refused("cost 0 0", "notes alone, a pad of " + signs, x -> {
                Edges.setTune(x, 0, "11");
                Edges.sayAll(x, signs);
            }, x -> x.cost(0, 0), NO);
            EDGES.refused("cost 0 0", "neither, a pad of " + signs, x -> Edges.sayAll(x, signs), x -> x.cost(0, 0),
                    signs.isEmpty() ? 0 : NO);
        }
    }

    static void promise10CostInOrderUnknownFaultNo() {
        EDGES.refused("cost 3 0", "a pad of x", x -> Edges.sayAll(x, "x"), x -> x.cost(3, 0), UNKNOWN);
        EDGES.refused("cost 0 4", "a pad of x", x -> Edges.sayAll(x, "x"), x -> x.cost(0, 4), UNKNOWN);
        EDGES.refused("cost 0 -1", "a pad of h", x -> Edges.sayAll(x, "h"), x -> x.cost(0, -1), UNKNOWN);
        EDGES.refused("cost 0 0", "a pad of hx", x -> Edges.sayAll(x, "hx"), x -> x.cost(0, 0), FAULT);
        EDGES.refused("cost 2 3", "a pad of xh", x -> Edges.sayAll(x, "xh"), x -> x.cost(2, 3), FAULT);
        EDGES.refused("cost 2 3", "a pad of h", x -> Edges.sayAll(x, "h"), x -> x.cost(2, 3), NO);
    }

    static void promise10CostOfEachLineOnEachTune() {
        for (int line = 0; line <= 2; line++) {
            for (int tune = 0; tune <= 3; tune++) {
                TuneWords x = new TuneWords();
                Edges.setLine(x, line, "2");
                Edges.setTune(x, tune, "12");
                x.say('o');
                for (int l = 0; l <= 2; l++) {
                    for (int t = 0; t <= 3; t++) {
                        due("cost " + l + " " + t, x.cost(l, t), l == line && t == tune ? 3 : NO);
                    }
                }
            }
        }
    }

    static void promise10CostOfO() {
        for (int stress = 0; stress <= 2; stress++) {
            for (int beat = 0; beat <= 2; beat++) {
                for (int length = 1; length <= 4; length++) {
                    int far = Math.abs(stress - beat);
                    TuneWords x = Edges.laid("" + stress, "" + beat + length, 7, 1, 1, 5);
                    due("o: " + stress + " on " + beat + length, Edges.costOf(x, "o"), 7 * far);
                    x = Edges.laid(stress + "-", "" + beat + length, 7, 1, 1, 5);
                    due("o: " + stress + "- on " + beat + length, Edges.costOf(x, "o"), 7 * far + (length == 1 ? 5 : 0));
                }
            }
        }
    }

    static void promise10CostOfH() {
        for (String line : new String[] {"1", "1-"}) {
            for (int beat = 0; beat <= 2; beat++) {
                for (int length = 1; length <= 4; length++) {
                    TuneWords x = Edges.laid(line, "12" + beat + length, 9, 5, 7, 9);
                    due("h on " + beat + length, Edges.costOf(x, "oh"), 5);
                }
            }
        }
    }

    static void promise10CostOfS() {
        for (int stress = 0; stress <= 2; stress++) {
            for (int beat = 0; beat <= 2; beat++) {
                for (int length = 1; length <= 4; length++) {
                    int far = Math.abs(stress - beat);
                    TuneWords x = Edges.laid("" + beat + stress, "" + beat + length, 7, 1, 5, 9);
                    due("s: " + stress + " on " + beat + length, Edges.costOf(x, "os"), 5 + 7 * far);
                    x = Edges.laid("" + beat + stress + "-", "" + beat + length, 7, 1, 5, 9);
                    due("s: " + stress + "- on " + beat + length, Edges.costOf(x, "os"), 5 + 7 * far);
                }
            }
        }
    }

    static void promise10CostOfStepsBehindOneAnother() {
        due("s behind h: the held note is shared", Edges.costOf(Edges.laid("02", "0222", 9, 2, 4, 0), "ohs"), 2 + 4);
        due("s behind s: the same note", Edges.costOf(Edges.laid("020", "02", 9, 2, 4, 0), "oss"), 4 + 18 + 4);
        due("h behind s", Edges.costOf(Edges.laid("02", "0222", 9, 2, 4, 0), "osh"), 4 + 18 + 2);
        due("h behind h", Edges.costOf(Edges.laid("0", "022222", 9, 2, 4, 0), "ohh"), 2 + 2);
        due("o behind s", Edges.costOf(Edges.laid("002", "0222", 9, 2, 4, 0), "oso"), 4);
        due("o behind h", Edges.costOf(Edges.laid("02", "022222", 9, 2, 4, 0), "oho"), 2);
    }

    static void promise10CostByRules0And9() {
        due("all 0", Edges.costOf(Edges.laid("2-0-", "0121", 0, 0, 0, 0), "ohs"), 0);
        due("FIT 9", Edges.costOf(Edges.laid("2-0-", "0121", 9, 0, 0, 0), "ohs"), 36);
        due("HOLD 9", Edges.costOf(Edges.laid("2-0-", "0121", 0, 9, 0, 0), "ohs"), 9);
        due("SHARE 9", Edges.costOf(Edges.laid("2-0-", "0121", 0, 0, 9, 0), "ohs"), 9);
        due("SHORT 9", Edges.costOf(Edges.laid("2-0-", "0121", 0, 0, 0, 9), "ohs"), 9);
        due("SHORT 9 twice", Edges.costOf(Edges.laid("2-0-", "0121", 0, 0, 0, 9), "oo"), 18);
        due("all 9", Edges.costOf(Edges.laid("2-0-", "0121", 9, 9, 9, 9), "ohs"), 36 + 27);
    }

    static void promise10CostOfTheLongestAndShortestLayings() {
        String shared = "o" + "s".repeat(8) + "h".repeat(10);
        String held = "o" + "h".repeat(10) + "s".repeat(8);
        TuneWords x = Edges.laid("2-".repeat(9), "01".repeat(11), 9, 9, 9, 9);
        due("19 steps, s first", Edges.costOf(x, shared), 27 + 8 * 27 + 10 * 9);
        due("19 steps, h first", Edges.costOf(x, held), 27 + 8 * 27 + 10 * 9);
        due("an h more", Edges.costOf(x, shared + "h"), NO);
        due("an s more", Edges.costOf(x, held + "s"), NO);
        due("an h less", Edges.costOf(x, shared.substring(0, 18)), NO);
        due("an s less", Edges.costOf(x, held.substring(0, 18)), NO);
        due("11 steps", Edges.costOf(x, "ooooooooohh"), 9 * 27 + 2 * 9);
        due("a tenth o", Edges.costOf(x, "oooooooooo"), NO);
        x = Edges.laid("2", "22".repeat(11));
        due("one on eleven", Edges.costOf(x, "o" + "h".repeat(10)), 20);
        x = Edges.laid("2".repeat(9), "22");
        due("nine on one", Edges.costOf(x, "o" + "s".repeat(8)), 32);
    }

    static void promise10CostChangesNothing() {
        for (int line = 0; line <= 2; line++) {
            int which = line;
            EDGES.changesNothing("cost " + line + " 0", x -> x.cost(which, 0));
            EDGES.changesNothing("cost " + line + " 3", x -> x.cost(which, 3));
        }
    }

    // ---- promise 11: "LEAST of a LINE on a TUNE: its COST (i = -1), its i-th step, from 0 on: 0 o, 1 h, 2 s; NONE:
    // there is no LAYING, or none such. UNKNOWN: both; OUTSIDE: i is below -1."

    static void promise11LeastUnknown() {
        for (int i : new int[] {-1, 0, HIGH}) {
            for (int line : Edges.NO_LINES) {
                EDGES.refused("least " + line + " 3 " + i, x -> x.least(line, 3, i), UNKNOWN);
            }
            for (int tune : Edges.NO_TUNES) {
                EDGES.refused("least 2 " + tune + " " + i, x -> x.least(2, tune, i), UNKNOWN);
            }
        }
        EDGES.refused("least 3 4 0", x -> x.least(3, 4, 0), UNKNOWN);
    }

    static void promise11LeastOutside() {
        for (int i : new int[] {-2, -3, -257, LOW, LOW + 1}) {
            for (int tune = 0; tune <= 3; tune++) {
                int which = tune;
                EDGES.refused("least 0 " + tune + " " + i, x -> x.least(0, which, i), OUTSIDE);
                EDGES.refused("least 2 " + tune + " " + i, x -> x.least(2, which, i), OUTSIDE);
            }
        }
    }

    static void promise11LeastUnknownAheadOfOutside() {
        for (int i : new int[] {-2, LOW}) {
            EDGES.refused("least 3 0 " + i, x -> x.least(3, 0, i), UNKNOWN);
            EDGES.refused("least -1 0 " + i, x -> x.least(-1, 0, i), UNKNOWN);
            EDGES.refused("least 0 4 " + i, x -> x.least(0, 4, i), UNKNOWN);
            EDGES.refused("least 0 -1 " + i, x -> x.least(0, -1, i), UNKNOWN);
        }
    }

    static void promise11LeastNoneWithoutLaying() {
        for (int i : new int[] {-1, 0, 1, 18, 19, HIGH}) {
            due("syllables alone", Edges.laid("1", "").least(0, 0, i), NONE);
            due("notes alone", Edges.laid("", "11").least(0, 0, i), NONE);
            due("nine syllables alone", Edges.laid(Edges.NINE, "").least(0, 0, i), NONE);
            due("eleven notes alone", Edges.laid("", Edges.ELEVEN).least(0, 0, i), NONE);
        }
    }

    static void promise11LeastOfNoneAtAll() {
        TuneWords x = new TuneWords();
        due("its cost", x.least(2, 3, -1), 0);
        due("no step", x.least(2, 3, 0), NONE);
        due("no step", x.least(2, 3, HIGH), NONE);
    }

    static void promise11LeastNoneSuchStep() {
        for (int syllables = 1; syllables <= 9; syllables++) {
            for (int notes = 1; notes <= 11; notes++) {
                int shortest = Math.max(syllables, notes);
                TuneWords x = allFree(syllables, notes);
                due("the first of " + shortest, x.least(0, 0, 0), 0);
                due("the last of " + shortest, x.least(0, 0, shortest - 1),
                        syllables == notes ? 0 : syllables < notes ? 1 : 2);
                for (int i : new int[] {shortest, shortest + 1, 19, 20, 22, HIGH - 1, HIGH}) {
                    due("step " + i + " of " + shortest, x.least(0, 0, i), NONE);
                }
                int longest = syllables + notes - 1;
                x = allShort(syllables, notes);
                due("the last of " + longest, x.least(0, 0, longest - 1), syllables > 1 ? 2 : notes > 1 ? 1 : 0);
                due("step " + longest, x.least(0, 0, longest), NONE);
                due("its cost", x.least(0, 0, -1), 9);
            }
        }
    }

    static void promise11LeastOfSuchOAheadOfHAheadOfS() {
        EDGES.due("o ahead, then h", leastOf(allFree(9, 11)), "ooooooooohh");
        EDGES.due("o ahead, then s", leastOf(allFree(9, 3)), "ooossssss");
        EDGES.due("o alone", leastOf(allFree(9, 9)), "ooooooooo");
        EDGES.due("h ahead of s", leastOf(allShort(9, 11)), "ohhhhhhhhhhssssssss");
        EDGES.due("h ahead of s", leastOf(allShort(2, 2)), "ohs");
        EDGES.due("one on one", leastOf(allShort(1, 1)), "o");
        // oo costs 4 by SHORT twice, ohs and osh 2 and HOLD and SHARE: 4, too.
        EDGES.due("o ahead of both", leastOf(Edges.laid("1-1-", "1111", 0, 1, 1, 2)), "oo");
        EDGES.due("o ahead of neither", leastOf(Edges.laid("1-1-", "1111", 0, 1, 1, 3)), "ohs");
        // The beats leave s as the cheapest second step.
        EDGES.due("the least cost ahead of o and h", leastOf(Edges.laid("002", "0222", 1, 0, 0, 0)), "oso");
    }

    /** The first step at which they differ counts, not how many o there are. */
    static void promise11LeastByTheFirstStepThatDiffers() {
        EDGES.due("oohs, not oosh", leastOf(Edges.laid("111-", "111111", 0, 0, 0, 9)), "oohs");
        EDGES.due("ohhss, not ohso", leastOf(Edges.laid("11-1", "111111", 0, 0, 0, 9)), "ohhss");
    }

    static void promise11LeastGreatestCost() {
        TuneWords x = Edges.laid("2-".repeat(9), "01".repeat(11), 9, 9, 9, 9);
        due("nine times FIT and SHORT, twice HOLD", x.least(0, 0, -1), 9 * 27 + 2 * 9);
        EDGES.due("o as dear as s", leastOf(x), "ooooooooohh");
    }

    static void promise11LeastChangesNothing() {
        for (int i : new int[] {-1, 0, 18, 19, HIGH}) {
            EDGES.changesNothing("least 0 0 " + i, x -> x.least(0, 0, i));
            EDGES.changesNothing("least 2 3 " + i, x -> x.least(2, 3, i));
        }
    }

    // ---- promise 12: "How many LAYINGS of a LINE on a TUNE there are (what = 0), how many of these have the least
    // COST (1), the greatest COST of any (2; NONE: there is none). UNKNOWN: both; OUTSIDE."

    static void promise12WaysUnknown() {
        for (int what = 0; what <= 2; what++) {
            int asked = what;
            for (int line : Edges.NO_LINES) {
                EDGES.refused("ways " + line + " 0 " + what, x -> x.ways(line, 0, asked), UNKNOWN);
            }
            for (int tune : Edges.NO_TUNES) {
                EDGES.refused("ways 0 " + tune + " " + what, x -> x.ways(0, tune, asked), UNKNOWN);
            }
        }
        EDGES.refused("ways 3 4 0", x -> x.ways(3, 4, 0), UNKNOWN);
    }

    static void promise12WaysOutside() {
        for (int what : Edges.beside(0, 2)) {
            for (int tune = 0; tune <= 3; tune++) {
                int which = tune;
                EDGES.refused("ways 0 " + tune + " " + what, x -> x.ways(0, which, what), OUTSIDE);
                EDGES.refused("ways 2 " + tune + " " + what, x -> x.ways(2, which, what), OUTSIDE);
            }
        }
    }

    static void promise12WaysUnknownAheadOfOutside() {
        for (int what : new int[] {-1, 3, LOW, HIGH}) {
            EDGES.refused("ways 3 0 " + what, x -> x.ways(3, 0, what), UNKNOWN);
            EDGES.refused("ways 0 4 " + what, x -> x.ways(0, 4, what), UNKNOWN);
            EDGES.refused("ways -1 -1 " + what, x -> x.ways(-1, -1, what), UNKNOWN);
        }
    }

    static void promise12WaysWithoutLaying() {
        for (int many : new int[] {1, 9}) {
            TuneWords x = Edges.laid("1".repeat(many), "");
            due("layings", x.ways(0, 0, 0), 0);
            due("of these", x.ways(0, 0, 1), 0);
            due("the greatest", x.ways(0, 0, 2), NONE);
        }
        for (int many : new int[] {1, 11}) {
            TuneWords x = Edges.laid("", "11".repeat(many));
            due("layings", x.ways(0, 0, 0), 0);
            due("of these", x.ways(0, 0, 1), 0);
            due("the greatest", x.ways(0, 0, 2), NONE);
        }
    }

    static void promise12WaysOfNoneAtAll() {
        TuneWords x = new TuneWords();
        due("one, without steps", x.ways(2, 3, 0), 1);
        due("it is of the least cost", x.ways(2, 3, 1), 1);
        due("it costs nothing", x.ways(2, 3, 2), 0);
    }

    /** Behind the first o each laying goes on by the three steps: ways of a king on a board. */
    private static int kingsWays(int syllables, int notes) {
        if (syllables == 1 || notes == 1) {
            return 1;
        }
        return kingsWays(syllables - 1, notes) + kingsWays(syllables, notes - 1) + kingsWays(syllables - 1, notes - 1);
    }

    static void promise12WaysOfEachSize() {
        due("one on one", allFree(1, 1).ways(0, 0, 0), 1);
        due("two on two", allFree(2, 2).ways(0, 0, 0), 3);
        due("nine on eleven", allFree(9, 11).ways(0, 0, 0), 1256465);
        for (int syllables = 1; syllables <= 9; syllables++) {
            for (int notes = 1; notes <= 11; notes++) {
                String size = syllables + " on " + notes;
                int layings = kingsWays(syllables, notes);
                TuneWords x = allFree(syllables, notes);
                due(size, x.ways(0, 0, 0), layings);
                due("of the same cost, " + size, x.ways(0, 0, 1), layings);
                due("the greatest, " + size, x.ways(0, 0, 2), 0);
            }
        }
    }

    static void promise12WaysOfTheLeastCost() {
        due("one alone", Edges.laid(Edges.NINE, "011121".repeat(3)).ways(0, 0, 1), 1);
        due("ohs and osh", allShort(2, 2).ways(0, 0, 1), 2);
        due("those with one o", allShort(9, 11).ways(0, 0, 1), 43758);
        TuneWords x = Edges.laid("1-1-", "1111", 0, 1, 1, 2);
        due("oo, ohs and osh cost 4", x.ways(0, 0, 1), 3);
        x.rule(3, 1);
        due("oo costs less", x.ways(0, 0, 1), 1);
        x.rule(3, 3);
        due("oo costs more", x.ways(0, 0, 1), 2);
    }

    static void promise12WaysGreatestCost() {
        TuneWords x = Edges.laid("2-".repeat(9), "01".repeat(11), 9, 9, 9, 9);
        due("all 9", x.ways(0, 0, 2), 27 + 8 * 27 + 10 * 9);
        due("one on one", Edges.laid("2-", "01", 9, 9, 9, 9).ways(0, 0, 2), 27);
        due("one on eleven", Edges.laid("2", "22".repeat(11), 9, 9, 9, 9).ways(0, 0, 2), 90);
        due("nine on one", Edges.laid("2".repeat(9), "22", 9, 9, 9, 9).ways(0, 0, 2), 72);
        due("by SHORT alone: oo", Edges.laid("1-1-", "1111", 0, 0, 0, 9).ways(0, 0, 2), 18);
        due("by HOLD alone: ohs", Edges.laid("1-1-", "1111", 0, 9, 0, 0).ways(0, 0, 2), 9);
    }

    static void promise12WaysChangesNothing() {
        for (int what = 0; what <= 2; what++) {
            int asked = what;
            EDGES.changesNothing("ways 0 0 " + what, x -> x.ways(0, 0, asked));
            EDGES.changesNothing("ways 2 3 " + what, x -> x.ways(2, 3, asked));
        }
    }

    // ---- promise 13: "Of NOTE j of a TUNE in LEAST of a LINE: which SYLLABLE is sung on it first (what = 0), how
    // many are (1); NONE: there is no LAYING. UNKNOWN: both; OUTSIDE: there is no such NOTE, what."

    static void promise13SungUnknown() {
        for (int line : Edges.NO_LINES) {
            EDGES.refused("sung " + line + " 0 0 0", x -> x.sung(line, 0, 0, 0), UNKNOWN);
            EDGES.refused("sung " + line + " 3 10 1", x -> x.sung(line, 3, 10, 1), UNKNOWN);
        }
        for (int tune : Edges.NO_TUNES) {
            EDGES.refused("sung 0 " + tune + " 0 0", x -> x.sung(0, tune, 0, 0), UNKNOWN);
            EDGES.refused("sung 2 " + tune + " 10 1", x -> x.sung(2, tune, 10, 1), UNKNOWN);
        }
    }

    static void promise13SungOutsideNoSuchNote() {
        for (int j : Edges.beside(0, 10)) {
            for (int tune = 0; tune <= 3; tune++) {
                int which = tune;
                EDGES.refused("sung 0 " + tune + " " + j + " 0", x -> x.sung(0, which, j, 0), OUTSIDE);
                EDGES.refused("sung 2 " + tune + " " + j + " 1", x -> x.sung(2, which, j, 1), OUTSIDE);
            }
        }
        for (int notes = 0; notes <= 11; notes++) {
            TuneWords x = allFree(9, notes);
            for (int j : Edges.beside(0, notes - 1)) {
                due("note " + j + " of " + notes, x.sung(0, 0, j, 0), OUTSIDE);
                due("note " + j + " of " + notes + ", no laying", x.sung(1, 0, j, 1), OUTSIDE);
            }
        }
    }

    static void promise13SungOutsideWhat() {
        for (int what : Edges.beside(0, 1)) {
            for (int j : new int[] {0, 10}) {
                EDGES.refused("sung 0 0 " + j + " " + what, x -> x.sung(0, 0, j, what), OUTSIDE);
                EDGES.refused("sung 2 3 " + j + " " + what, x -> x.sung(2, 3, j, what), OUTSIDE);
            }
            EDGES.refused("sung 0 0 -1 " + what, x -> x.sung(0, 0, -1, what), OUTSIDE);
            EDGES.refused("sung 0 0 11 " + what, x -> x.sung(0, 0, 11, what), OUTSIDE);
        }
    }

    static void promise13SungUnknownAheadOfOutside() {
        for (int wrong : new int[] {-1, 11, LOW, HIGH}) {
            EDGES.refused("sung 3 0 " + wrong + " 0", x -> x.sung(3, 0, wrong, 0), UNKNOWN);
            EDGES.refused("sung 0 4 " + wrong + " 0", x -> x.sung(0, 4, wrong, 0), UNKNOWN);
            EDGES.refused("sung -1 0 0 " + wrong, x -> x.sung(-1, 0, 0, wrong), UNKNOWN);
            EDGES.refused("sung 0 -1 0 " + wrong, x -> x.sung(0, -1, 0, wrong), UNKNOWN);
        }
    }

    static void promise13SungNoneWithoutLaying() {
        for (int notes : new int[] {1, 11}) {
            TuneWords x = Edges.laid("", "11".repeat(notes));
            for (int j : new int[] {0, notes - 1}) {
                due("which on " + j, x.sung(0, 0, j, 0), NONE);
                due("how many on " + j, x.sung(0, 0, j, 1), NONE);
            }
        }
    }

    /** Without notes a wrong number fits ahead of NONE, as there is no such note. */
    static void promise13SungOutsideAheadOfNone() {
        due("no notes, no laying", Edges.laid("1", "").sung(0, 0, 0, 0), OUTSIDE);
        due("neither", new TuneWords().sung(0, 0, 0, 0), OUTSIDE);
        due("no syllables, what", Edges.laid("", "11").sung(0, 0, 0, 2), OUTSIDE);
        due("no syllables, note", Edges.laid("", "11").sung(0, 0, 1, 0), OUTSIDE);
    }

    private static void dueSung(TuneWords x, int j, int first, int many) {
        due("first on " + j, x.sung(0, 0, j, 0), first);
        due("how many on " + j, x.sung(0, 0, j, 1), many);
    }

    static void promise13SungOnEachNote() {
        TuneWords x = allFree(9, 11);
        for (int j = 0; j <= 10; j++) {
            dueSung(x, j, Math.min(j, 8), 1);
        }
        x = allFree(9, 3);
        dueSung(x, 0, 0, 1);
        dueSung(x, 1, 1, 1);
        dueSung(x, 2, 2, 7);
        dueSung(allFree(9, 1), 0, 0, 9);
        dueSung(allFree(1, 1), 0, 0, 1);
        x = allFree(1, 11);
        dueSung(x, 0, 0, 1);
        dueSung(x, 10, 0, 1);
    }

    /** ohs: the syllable that is held is sung on the note too, ahead of the one that shares it. */
    static void promise13SungOnANoteThatIsHeldAndShared() {
        TuneWords x = allShort(9, 11);
        for (int j = 0; j <= 9; j++) {
            dueSung(x, j, 0, 1);
        }
        dueSung(x, 10, 0, 9);
    }

    static void promise13SungChangesNothing() {
        for (int j : new int[] {0, 1, 10, 11}) {
            EDGES.changesNothing("sung 0 0 " + j, x -> x.sung(0, 0, j, 0));
            EDGES.changesNothing("sung 2 3 " + j, x -> x.sung(2, 3, j, 1));
        }
    }
}
