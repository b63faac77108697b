/** Promises 14 to 17, sentence by sentence: the ends of each range, empty and full, what is refused. */
public final class EdgeVersesTest {
    private static final int UNKNOWN = -1, OUTSIDE = -2, NONE = -6;
    private static final int LOW = Integer.MIN_VALUE, HIGH = Integer.MAX_VALUE;
    private static final Edges EDGES = new Edges("EdgeVersesTest");

    public static void main(String[] args) {
        EDGES.runAll(EdgeVersesTest.class, "promise14Verse", "promise15Best", "promise16Turned", "promise17Anew");
    }

    private static void due(String call, int got, int want) {
        EDGES.due(call, got, want);
    }

    // ---- promise 14: "VERSE of a TUNE; NONE: there is none. UNKNOWN."

    static void promise14VerseUnknown() {
        for (int tune : Edges.NO_TUNES) {
            EDGES.refused("verse " + tune, x -> x.verse(tune), UNKNOWN);
        }
    }

    static void promise14VerseNone() {
        TuneWords x = new TuneWords();
        for (int tune = 0; tune <= 3; tune++) {
            due("neither, " + tune, x.verse(tune), NONE);
        }
        for (int line = 0; line <= 2; line++) {
            Edges.setLine(x, line, Edges.NINE);
        }
        for (int tune = 0; tune <= 3; tune++) {
            due("no notes, " + tune, x.verse(tune), NONE);
        }
        x = new TuneWords();
        for (int tune = 0; tune <= 3; tune++) {
            Edges.setTune(x, tune, Edges.ELEVEN);
            due("no syllables, " + tune, x.verse(tune), NONE);
        }
    }

    static void promise14VerseOfOneLineAlone() {
        for (int line = 0; line <= 2; line++) {
            for (int tune = 0; tune <= 3; tune++) {
                TuneWords x = new TuneWords();
                Edges.setLine(x, line, "2");
                Edges.setTune(x, tune, "12");
                for (int t = 0; t <= 3; t++) {
                    due("verse " + t, x.verse(t), t == tune ? 3 : NONE);
                }
            }
        }
    }

    static void promise14VerseAddsTheLinesThatHaveSyllables() {
        TuneWords x = new TuneWords();
        Edges.setTune(x, 3, "02");
        Edges.setLine(x, 0, "1");
        due("the first", x.verse(3), 3);
        Edges.setLine(x, 2, "2");
        due("the first and the last", x.verse(3), 3 + 6);
        Edges.setLine(x, 1, "00");
        due("all three", x.verse(3), 3 + 6 + 4);
        Edges.setLine(x, 0, "");
        due("without the first", x.verse(3), 6 + 4);
        Edges.setLine(x, 2, "0");
        due("one that costs nothing", x.verse(3), 4);
        Edges.setLine(x, 1, "");
        due("a verse that costs nothing is one", x.verse(3), 0);
        Edges.setLine(x, 2, "");
        due("none at last", x.verse(3), NONE);
    }

    static void promise14VerseGreatest() {
        TuneWords x = new TuneWords();
        for (int line = 0; line <= 2; line++) {
            Edges.setLine(x, line, "2-".repeat(9));
        }
        Edges.setTune(x, 0, "01".repeat(11));
        Edges.setRules(x, 9, 9, 9, 9);
        due("three times nine FIT and SHORT and two HOLD", x.verse(0), 3 * (9 * 27 + 2 * 9));
    }

    static void promise14VerseChangesNothing() {
        for (int tune = 0; tune <= 3; tune++) {
            int which = tune;
            EDGES.changesNothing("verse " + tune, x -> x.verse(which));
        }
    }

    // ---- promise 15: "BEST (what = 0), its VERSE (1); NONE: no TUNE has one. OUTSIDE."

    static void promise15BestOutside() {
        for (int what : Edges.beside(0, 1)) {
            EDGES.refused("best " + what, x -> x.best(what), OUTSIDE);
        }
    }

    private static void dueBest(TuneWords x, int tune, int verse) {
        due("best 0", x.best(0), tune);
        due("best 1", x.best(1), verse);
    }

    static void promise15BestNone() {
        TuneWords x = new TuneWords();
        dueBest(x, NONE, NONE);
        Edges.setLine(x, 0, Edges.NINE);
        dueBest(x, NONE, NONE);
        x = new TuneWords();
        for (int tune = 0; tune <= 3; tune++) {
            Edges.setTune(x, tune, Edges.ELEVEN);
        }
        dueBest(x, NONE, NONE);
    }

    static void promise15BestTheOnlyOne() {
        for (int tune = 0; tune <= 3; tune++) {
            TuneWords x = new TuneWords();
            Edges.setLine(x, 2, "2");
            Edges.setTune(x, tune, "02");
            dueBest(x, tune, 6);
        }
    }

    static void promise15BestOfTheLeastVerse() {
        for (int best = 0; best <= 3; best++) {
            TuneWords x = new TuneWords();
            Edges.setLine(x, 1, "2");
            for (int tune = 0; tune <= 3; tune++) {
                Edges.setTune(x, tune, tune == best ? "12" : "02");
            }
            dueBest(x, best, 3);
        }
    }

    static void promise15BestOfSuchTheLeast() {
        for (int best = 0; best <= 3; best++) {
            for (int second = best + 1; second <= 3; second++) {
                TuneWords x = new TuneWords();
                Edges.setLine(x, 1, "2");
                for (int tune = 0; tune <= 3; tune++) {
                    Edges.setTune(x, tune, tune == best ? "22" : tune == second ? "24" : "12");
                }
                dueBest(x, best, 0);
            }
        }
        TuneWords x = new TuneWords();
        Edges.setLine(x, 0, "0");
        for (int tune = 0; tune <= 3; tune++) {
            Edges.setTune(x, tune, "22");
        }
        dueBest(x, 0, 6);
    }

    /** A tune without notes has no verse, though a line without syllables lies on it for nothing. */
    static void promise15BestPassesTunesWithoutNotes() {
        TuneWords x = new TuneWords();
        Edges.setLine(x, 0, "0");
        Edges.setTune(x, 2, "22");
        dueBest(x, 2, 6);
        Edges.setTune(x, 2, "");
        dueBest(x, NONE, NONE);
    }

    static void promise15BestChangesNothing() {
        EDGES.changesNothing("best 0", x -> x.best(0));
        EDGES.changesNothing("best 1", x -> x.best(1));
    }

    // ---- promise 16: "The k, 0 to NOTES less 1, by which COST of LEAST of a LINE on a TUNE, TURNED by it, is least,
    // of several the least (what = 0), that COST (1); NONE: there is no LAYING, or there are no NOTES. UNKNOWN: both;
    // OUTSIDE."

    static void promise16TurnedUnknown() {
        for (int what = 0; what <= 1; what++) {
            int asked = what;
            for (int line : Edges.NO_LINES) {
                EDGES.refused("turned " + line + " 3 " + what, x -> x.turned(line, 3, asked), UNKNOWN);
            }
            for (int tune : Edges.NO_TUNES) {
                EDGES.refused("turned 2 " + tune + " " + what, x -> x.turned(2, tune, asked), UNKNOWN);
            }
        }
        EDGES.refused("turned 3 4 0", x -> x.turned(3, 4, 0), UNKNOWN);
    }

    static void promise16TurnedOutside() {
        for (int what : Edges.beside(0, 1)) {
            EDGES.refused("turned 0 0 " + what, x -> x.turned(0, 0, what), OUTSIDE);
            EDGES.refused("turned 2 3 " + what, x -> x.turned(2, 3, what), OUTSIDE);
        }
    }

    static void promise16TurnedUnknownAheadOfOutside() {
        for (int what : new int[] {-1, 2, LOW, HIGH}) {
            EDGES.refused("turned 3 0 " + what, x -> x.turned(3, 0, what), UNKNOWN);
            EDGES.refused("turned 0 4 " + what, x -> x.turned(0, 4, what), UNKNOWN);
            EDGES.refused("turned -1 -1 " + what, x -> x.turned(-1, -1, what), UNKNOWN);
        }
    }

    private static void dueTurned(TuneWords x, int k, int cost) {
        due("turned 0", x.turned(0, 0, 0), k);
        due("turned 1", x.turned(0, 0, 1), cost);
    }

    static void promise16TurnedNone() {
        dueTurned(new TuneWords(), NONE, NONE);
        dueTurned(Edges.laid("1", ""), NONE, NONE);
        dueTurned(Edges.laid(Edges.NINE, ""), NONE, NONE);
        dueTurned(Edges.laid("", "11"), NONE, NONE);
        dueTurned(Edges.laid("", Edges.ELEVEN), NONE, NONE);
    }

    /** All notes but one are alike. */
    private static String oneAmong(int notes, int at, String one, String others) {
        return others.repeat(at) + one + others.repeat(notes - at - 1);
    }

    static void promise16TurnedByEachKToNotesLess1() {
        for (int notes = 1; notes <= 11; notes++) {
            for (int k = 0; k < notes; k++) {
                dueTurned(Edges.laid("2", oneAmong(notes, k, "22", "02")), k, 2 * (notes - 1));
                dueTurned(Edges.laid("1-", oneAmong(notes, k, "14", "11")), k, 2 * (notes - 1));
            }
        }
    }

    static void promise16TurnedThoseAheadComeBehindTheLast() {
        for (int k = 0; k < 9; k++) {
            String line = "001201122";
            String begins = line.substring(9 - k) + line.substring(0, 9 - k);
            dueTurned(Edges.laid(line, begins.replaceAll("(.)", "$12"), 3, 9, 9, 9), k, 0);
        }
    }

    static void promise16TurnedOfSeveralTheLeast() {
        for (int notes = 1; notes <= 11; notes++) {
            dueTurned(Edges.laid("2", "12".repeat(notes)), 0, 3 + 2 * (notes - 1));
        }
        dueTurned(Edges.laid("2", "022202022202"), 1, 10);
        dueTurned(Edges.laid("2", "020202022222"), 4, 10);
        dueTurned(Edges.laid("2", "121202122222"), 4, 10);
    }

    static void promise16TurnedByTheCostOfLeast() {
        // As it is, ooo and ohos are the cheapest; by 1 each syllable comes on its beat.
        TuneWords x = Edges.laid("201", "122202");
        due("as it is", x.least(0, 0, -1), 12);
        dueTurned(x, 1, 0);
        dueTurned(Edges.laid("201", "220212"), 0, 0);
    }

    static void promise16TurnedChangesNothing() {
        for (int what = 0; what <= 1; what++) {
            int asked = what;
            EDGES.changesNothing("turned 0 0 " + what, x -> x.turned(0, 0, asked));
            EDGES.changesNothing("turned 2 3 " + what, x -> x.turned(2, 3, asked));
        }
    }

    // ---- promise 17: "ANEW by which COST of LEAST of a LINE on a TUNE is least, if that is less than it is now: the
    // SYLLABLE (what = 0), its other STRESS (1), that COST (2); of several that of the least SYLLABLE, of such the
    // least STRESS; NONE: by none it is less, or there is no LAYING. UNKNOWN: both; OUTSIDE."

    static void promise17AnewUnknown() {
        for (int what = 0; what <= 2; what++) {
            int asked = what;
            for (int line : Edges.NO_LINES) {
                EDGES.refused("anew " + line + " 3 " + what, x -> x.anew(line, 3, asked), UNKNOWN);
            }
            for (int tune : Edges.NO_TUNES) {
                EDGES.refused("anew 2 " + tune + " " + what, x -> x.anew(2, tune, asked), UNKNOWN);
            }
        }
        EDGES.refused("anew 3 4 0", x -> x.anew(3, 4, 0), UNKNOWN);
    }

    static void promise17AnewOutside() {
        for (int what : Edges.beside(0, 2)) {
            EDGES.refused("anew 0 0 " + what, x -> x.anew(0, 0, what), OUTSIDE);
            EDGES.refused("anew 2 3 " + what, x -> x.anew(2, 3, what), OUTSIDE);
        }
    }

    static void promise17AnewUnknownAheadOfOutside() {
        for (int what : new int[] {-1, 3, LOW, HIGH}) {
            EDGES.refused("anew 3 0 " + what, x -> x.anew(3, 0, what), UNKNOWN);
            EDGES.refused("anew 0 4 " + what, x -> x.anew(0, 4, what), UNKNOWN);
            EDGES.refused("anew -1 -1 " + what, x -> x.anew(-1, -1, what), UNKNOWN);
        }
    }

    private static void dueAnew(TuneWords x, int syllable, int stress, int cost) {
        due("anew 0", x.anew(0, 0, 0), syllable);
        due("anew 1", x.anew(0, 0, 1), stress);
        due("anew 2", x.anew(0, 0, 2), cost);
    }

    static void promise17AnewNoneWithoutLaying() {
        dueAnew(Edges.laid("1", ""), NONE, NONE, NONE);
        dueAnew(Edges.laid(Edges.NINE, ""), NONE, NONE, NONE);
        dueAnew(Edges.laid("", "11"), NONE, NONE, NONE);
        dueAnew(Edges.laid("", Edges.ELEVEN), NONE, NONE, NONE);
        dueAnew(new TuneWords(), NONE, NONE, NONE);
    }

    static void promise17AnewNoneWhereItIsNotLess() {
        dueAnew(Edges.laid("1", "12"), NONE, NONE, NONE);
        dueAnew(Edges.laid(Edges.NINE, "021222".repeat(3)), NONE, NONE, NONE);
        dueAnew(Edges.laid("1-", "11"), NONE, NONE, NONE);
        dueAnew(Edges.laid("1", "12".repeat(11)), NONE, NONE, NONE);
        dueAnew(Edges.laid("1".repeat(9), "12"), NONE, NONE, NONE);
        dueAnew(Edges.laid("0", "22", 0, 2, 4, 2), NONE, NONE, NONE);
    }

    static void promise17AnewWhereItIsLessByOne() {
        dueAnew(Edges.laid("1", "22", 1, 2, 4, 2), 0, 2, 0);
        dueAnew(Edges.laid("1-", "21", 1, 9, 9, 9), 0, 2, 9);
    }

    static void promise17AnewEachSyllableAndStress() {
        for (int i = 0; i < 9; i++) {
            for (int was = 0; was <= 2; was++) {
                for (int beat = 0; beat <= 2; beat++) {
                    TuneWords x = Edges.laid(("" + was).repeat(9), oneAmong(9, i, beat + "2", was + "2"), 3, 9, 9, 9);
                    if (beat == was) {
                        dueAnew(x, NONE, NONE, NONE);
                    } else {
                        dueAnew(x, i, beat, 0);
                    }
                }
            }
        }
    }

    static void promise17AnewTheLeastCostAheadOfTheLeastSyllable() {
        dueAnew(Edges.laid("00", "1222"), 1, 2, 3);
        dueAnew(Edges.laid("000", "121222"), 2, 2, 6);
        dueAnew(Edges.laid("0", "22"), 0, 2, 0);
    }

    static void promise17AnewOfSeveralTheLeastSyllable() {
        dueAnew(Edges.laid("0".repeat(9), "12".repeat(9)), 0, 1, 24);
        dueAnew(Edges.laid("011", "020222"), 1, 0, 3);
        dueAnew(Edges.laid("12", "2212"), 0, 2, 3);
    }

    /** By SHARE and HOLD for nothing the second syllable may go on either note. */
    static void promise17AnewOfSuchTheLeastStress() {
        dueAnew(Edges.laid("01", "0222", 3, 0, 0, 2), 1, 0, 0);
        dueAnew(Edges.laid("21", "2202", 3, 0, 0, 2), 1, 0, 0);
        // To share the first note as 1 is as good as to be sung on the second as 2.
        dueAnew(Edges.laid("10", "1222", 3, 0, 0, 2), 1, 1, 0);
    }

    static void promise17AnewByAnotherLaying() {
        // Now oos costs 4 and 3, by another stress oso 4 alone: LEAST is that of the line as it would be.
        TuneWords x = Edges.laid("022", "0222", 3, 2, 4, 2);
        due("as it is", x.least(0, 0, -1), 4);
        dueAnew(x, NONE, NONE, NONE);
        x = Edges.laid("012", "0222", 3, 2, 4, 2);
        due("as it is", x.least(0, 0, -1), 7);
        dueAnew(x, 1, 0, 4);
    }

    static void promise17AnewKeepsWhetherItIsLong() {
        dueAnew(Edges.laid("0-", "21"), 0, 2, 2);
        dueAnew(Edges.laid("0", "21"), 0, 2, 0);
    }

    static void promise17AnewChangesNothing() {
        for (int what = 0; what <= 2; what++) {
            int asked = what;
            EDGES.changesNothing("anew 0 0 " + what, x -> x.anew(0, 0, asked));
            EDGES.changesNothing("anew 2 3 " + what, x -> x.anew(2, 3, asked));
        }
    }
}
