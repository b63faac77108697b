/** The sentences of the document's beginning and of its terms that no promise tells again. */
public final class EdgeTermsTest {
    private static final int UNKNOWN = -1, OUTSIDE = -2, STATE = -3, FULL = -4, NO = -5, NONE = -6, FAULT = -7;
    private static final Edges EDGES = new Edges("EdgeTermsTest");

    public static void main(String[] args) {
        EDGES.runAll(EdgeTermsTest.class, "terms0", "terms1", "terms2", "terms3");
    }

    private static void due(String call, int got, int want) {
        EDGES.due(call, got, want);
    }

    // ---- "An object is used for at most 512 calls after it has been made"

    static void terms0The512thCallIsAnsweredLikeTheFirst() {
        TuneWords x = new TuneWords();
        for (int round = 0; round < 10; round++) {
            callsOfARound(x, round);
        }
        dueSigns(x, 22);
        due("call 503", x.wipe(), 22);
        dueSigns(x, 8);
        due("call 512", x.count(2), 8);
    }

    /** 48 calls. */
    private static void callsOfARound(TuneWords x, int round) {
        dueSigns(x, 22);
        due("tune", x.tune(round % 4), 11);
        for (int many = 1; many <= 18; many++) {
            due("say", x.say(Edges.NINE_LONG.charAt(many - 1)), many);
        }
        due("line", x.line(round % 3), 9);
        due("image", x.image(round % 2), 1);
        due("ways", x.ways(round % 3, round % 4, 0), 1256465);
        due("rule", x.rule(0, (round + 4) % 10), (round + 3) % 10);
        due("rule", x.count(10), (round + 4) % 10);
        due("restore", x.restore(round % 2), 1);
        due("rule", x.rule(0, (round + 4) % 10), (round + 3) % 10);
    }

    private static void dueSigns(TuneWords x, int signs) {
        for (int many = 1; many <= signs; many++) {
            due("say", x.say(Edges.ELEVEN.charAt(many - 1)), many);
        }
    }

    // ---- "NONE -6 is answered only where no refusal fits."

    static void terms0NoneOnlyWhereNoRefusalFits() {
        TuneWords x = new TuneWords();
        due("syllable", x.syllable(3, 0, 0), UNKNOWN);
        due("syllable", x.syllable(0, 0, 2), OUTSIDE);
        due("note", x.note(4, 0, 0), UNKNOWN);
        due("note", x.note(0, 0, 2), OUTSIDE);
        due("verse", x.verse(4), UNKNOWN);
        due("best", x.best(2), OUTSIDE);
        due("turned", x.turned(0, 0, 2), OUTSIDE);
        due("anew", x.anew(0, 0, 3), OUTSIDE);
        Edges.setLine(x, 0, "1");
        due("least", x.least(0, 0, -2), OUTSIDE);
        due("ways", x.ways(0, 0, 3), OUTSIDE);
        due("sung", x.sung(0, 0, 0, 0), OUTSIDE);
        due("cost", x.cost(0, 0), NO);
    }

    // ---- "All that is told is as things are when it is asked."

    static void terms0ToldAsThingsAreWhenARuleChanges() {
        TuneWords x = Edges.laid("2-0", "0122");
        Edges.sayAll(x, "oo");
        due("cost", x.cost(0, 0), 6 + 2 + 6);
        due("least: oo, or osh", x.least(0, 0, -1), 14);
        due("greatest", x.ways(0, 0, 2), 6 + 2 + 2 + 4 + 6);
        due("turned", x.turned(0, 0, 1), 0);
        due("anew", x.anew(0, 0, 2), 8);
        due("verse", x.verse(0), 14);
        Edges.setRules(x, 1, 9, 9, 0);
        due("cost", x.cost(0, 0), 4);
        due("least", x.least(0, 0, -1), 4);
        due("greatest", x.ways(0, 0, 2), 2 + 9 + 9 + 2);
        due("turned", x.turned(0, 0, 1), 0);
        due("anew", x.anew(0, 0, 2), 2);
        due("verse", x.verse(0), 4);
        due("best", x.best(1), 4);
    }

    static void terms0ToldAsThingsAreWhenALineOrATuneChanges() {
        TuneWords x = Edges.laid("2", "02");
        due("least", x.least(0, 0, -1), 6);
        due("best", x.best(1), 6);
        Edges.setTune(x, 0, "0222");
        due("least", x.least(0, 0, -1), 8);
        due("turned", x.turned(0, 0, 0), 1);
        due("sung", x.sung(0, 0, 1, 0), 0);
        Edges.setLine(x, 0, "02");
        due("least", x.least(0, 0, -1), 0);
        due("turned", x.turned(0, 0, 0), 0);
        due("sung", x.sung(0, 0, 1, 0), 1);
        due("best", x.best(1), 0);
        x.line(0);
        due("best", x.best(1), NONE);
        due("least", x.least(0, 0, -1), NONE);
        x.tune(0);
        due("least", x.least(0, 0, -1), 0);
    }

    static void terms0ToldAsThingsAreWhenAnImageIsRestored() {
        TuneWords x = Edges.laid("2", "02");
        x.image(0);
        Edges.setTune(x, 0, "22");
        due("least", x.least(0, 0, -1), 0);
        x.restore(0);
        due("least", x.least(0, 0, -1), 6);
        due("verse", x.verse(0), 6);
    }

    // ---- "Calls that are refused answer the first that fits", each of the seven answers once

    static void terms0EachAnswerOfARefusedCall() {
        due("UNKNOWN", new TuneWords().line(3), UNKNOWN);
        due("OUTSIDE", new TuneWords().say(32), OUTSIDE);
        due("FAULT", Edges.withPad("x").line(0), FAULT);
        due("STATE", new TuneWords().restore(0), STATE);
        due("FULL", Edges.withPad(Edges.ELEVEN).say('1'), FULL);
        due("NO", Edges.withPad("o").cost(0, 0), NO);
        due("NONE", new TuneWords().best(0), NONE);
    }

    // ---- 1 "LINES are 0 to 2 .. TUNES are 0 to 3 .."

    static void terms1LinesAndTunesStandForThemselves() {
        TuneWords x = new TuneWords();
        for (int line = 0; line <= 2; line++) {
            Edges.setLine(x, line, ("" + line).repeat(line + 7));
        }
        for (int tune = 0; tune <= 3; tune++) {
            Edges.setTune(x, tune, ("1" + (tune + 1)).repeat(tune + 8));
        }
        for (int line = 0; line <= 2; line++) {
            due("syllables of " + line, x.syllable(line, -1, 0), line + 7);
            due("the last of " + line, x.syllable(line, line + 6, 0), line);
            due("behind it", x.syllable(line, line + 7, 0), NONE);
        }
        for (int tune = 0; tune <= 3; tune++) {
            due("notes of " + tune, x.note(tune, -1, 0), tune + 8);
            due("the last of " + tune, x.note(tune, tune + 7, 1), tune + 1);
            due("behind it", x.note(tune, tune + 8, 1), NONE);
        }
    }

    static void terms1ThePadHasNoMoreThan22SignsAsALine() {
        TuneWords x = Edges.withPad(Edges.NINE_LONG);
        for (int many = 19; many <= 22; many++) {
            due("say", x.say('1'), many);
            due("fault", x.fault(0), 18);
        }
        due("say", x.say('1'), FULL);
        due("line", x.line(0), FAULT);
        due("wipe", x.wipe(), 22);
    }

    // ---- 2 "A LAYING of a LINE on a TUNE is a row of steps .."

    /** Told by itself, without going along: as many o and s as syllables, as many o and h as notes, o first. */
    private static boolean isLaying(String row, int syllables, int notes) {
        int o = row.replaceAll("[^o]", "").length();
        int h = row.replaceAll("[^h]", "").length();
        int s = row.length() - o - h;
        return o + s == syllables && o + h == notes && (row.isEmpty() || row.startsWith("o"));
    }

    private static String rowOf(int number, int steps) {
        StringBuilder row = new StringBuilder();
        for (int at = 0; at < steps; at++) {
            row.append("ohs".charAt(number % 3));
            number /= 3;
        }
        return row.toString();
    }

    static void terms2EveryRowOfStepsIsALayingOrNo() {
        for (int syllables = 0; syllables <= 3; syllables++) {
            for (int notes = 0; notes <= 3; notes++) {
                int layings = 0;
                int rows = 1;
                for (int steps = 0; steps <= 6; steps++) {
                    for (int number = 0; number < rows; number++) {
                        String row = rowOf(number, steps);
                        boolean is = isLaying(row, syllables, notes);
                        TuneWords x = Edges.laid("1".repeat(syllables), "12".repeat(notes), 9, 0, 0, 9);
                        due("cost of " + row + ", " + syllables + " on " + notes, Edges.costOf(x, row), is ? 0 : NO);
                        layings += is ? 1 : 0;
                    }
                    rows *= 3;
                }
                TuneWords x = Edges.laid("1".repeat(syllables), "12".repeat(notes));
                due("layings, " + syllables + " on " + notes, x.ways(0, 0, 0), layings);
            }
        }
    }

    static void terms2WithoutSyllablesOrNotesThereIsNoneWithoutBothThereIsOne() {
        due("syllables alone", Edges.laid("1", "").ways(0, 0, 0), 0);
        due("notes alone", Edges.laid("", "12").ways(0, 0, 0), 0);
        due("without both", Edges.laid("", "").ways(0, 0, 0), 1);
        due("its cost", Edges.laid("", "").least(0, 0, -1), 0);
        due("its steps", Edges.laid("", "").least(0, 0, 0), NONE);
    }

    // ---- 3 "VERSE .. there is one, if some LINE has SYLLABLES, and the TUNE has NOTES. BEST .. TURNED .. ANEW .."

    static void terms3VerseNeedsSyllablesAndNotes() {
        due("neither", Edges.laid("", "").verse(0), NONE);
        due("syllables alone", Edges.laid("1", "").verse(0), NONE);
        due("notes alone", Edges.laid("", "12").verse(0), NONE);
        due("both", Edges.laid("1", "12").verse(0), 0);
    }

    static void terms3TurnedByNothingIsTheTuneItself() {
        for (int notes = 1; notes <= 11; notes++) {
            TuneWords x = Edges.laid("1", "12".repeat(notes));
            due("k", x.turned(0, 0, 0), 0);
            due("cost", x.turned(0, 0, 1), x.least(0, 0, -1));
        }
    }

    static void terms3AnewIsOneSyllableAlone() {
        TuneWords x = Edges.laid("000", "222222");
        due("two are still off", x.anew(0, 0, 2), 12);
        due("now", x.least(0, 0, -1), 18);
    }
}
