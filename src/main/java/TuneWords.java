/** Words laid on tunes: which syllable is sung on which note, and what that costs. */
public final class TuneWords {
    public static final int UNKNOWN = -1, OUTSIDE = -2, STATE = -3, FULL = -4, NO = -5, NONE = -6, FAULT = -7;

    private static final int LINES = 3;
    private static final int TUNES = 4;
    private static final int IMAGES = 2;
    private static final int MAX_SYLLABLES = 9;
    private static final int MAX_NOTES = 11;
    private static final int MAX_STEPS = MAX_SYLLABLES + MAX_NOTES;
    private static final int MAX_STRESS = 2;
    private static final int MAX_BEAT = 2;
    private static final int MAX_LENGTH = 4;

    private static final int MAX_SIGNS = 22;
    private static final int FIRST_SIGN = 33;
    private static final int LAST_SIGN = 126;

    private static final int FIT = 0;
    private static final int HOLD = 1;
    private static final int SHARE = 2;
    private static final int SHORT = 3;
    private static final int RULES = 4;
    private static final int MAX_RULE = 9;

    /** Numbered in the order in which one goes ahead of the other in LEAST. */
    private static final int STEP_O = 0;
    private static final int STEP_H = 1;
    private static final int STEP_S = 2;
    private static final int STEPS = 3;
    private static final int NO_STEP = -1;

    /** By how many syllables, and by how many notes, each step goes on. */
    private static final int[] SYLLABLES_ON = {1, 0, 1};
    private static final int[] NOTES_ON = {1, 1, 0};

    /** What count calls the first of the rules. */
    private static final int COUNT_RULES = 10;

    private final Pad pad = new Pad();
    private final Book book = new Book();
    private final Book[] images = {new Book(), new Book()};
    private final Loom loom = new Loom();
    private int keptImages = 0;

    public TuneWords() {
    }

    // ---- 1 lines, tunes

    public int say(int sign) {
        if (!isWithin(sign, FIRST_SIGN, LAST_SIGN)) {
            return OUTSIDE;
        }
        if (pad.size >= MAX_SIGNS) {
            return FULL;
        }
        pad.put(sign);
        return pad.size;
    }

    public int wipe() {
        int had = pad.size;
        pad.clear();
        return had;
    }

    public int fault(int how) {
        if (!isWithin(how, 0, 1)) {
            return OUTSIDE;
        }
        return how == 0 ? pad.faultAsLine() : pad.faultAsTune();
    }

    public int line(int line) {
        if (!isLine(line)) {
            return UNKNOWN;
        }
        if (pad.faultAsLine() != NONE) {
            return FAULT;
        }
        Row row = book.lines[line];
        pad.readLine(row);
        pad.clear();
        return row.size;
    }

    public int tune(int tune) {
        if (!isTune(tune)) {
            return UNKNOWN;
        }
        if (pad.faultAsTune() != NONE) {
            return FAULT;
        }
        Row row = book.tunes[tune];
        pad.readTune(row);
        pad.clear();
        return row.size;
    }

    public int rule(int what, int v) {
        if (!isWithin(what, 0, RULES - 1) || !isWithin(v, 0, MAX_RULE)) {
            return OUTSIDE;
        }
        int was = book.rules[what];
        book.rules[what] = v;
        return was;
    }

    public int syllable(int line, int i, int what) {
        return isLine(line) ? partOf(book.lines[line], i, what) : UNKNOWN;
    }

    public int note(int tune, int i, int what) {
        return isTune(tune) ? partOf(book.tunes[tune], i, what) : UNKNOWN;
    }

    // ---- 2 layings

    public int cost(int line, int tune) {
        if (!areKnown(line, tune)) {
            return UNKNOWN;
        }
        if (!pad.hasStepsOnly()) {
            return FAULT;
        }
        loom.take(book, line, tune);
        return loom.costOf(pad);
    }

    public int least(int line, int tune, int i) {
        if (!areKnown(line, tune)) {
            return UNKNOWN;
        }
        if (i < -1) {
            return OUTSIDE;
        }
        loom.take(book, line, tune);
        return i == -1 ? loom.leastCost() : loom.leastStep(i);
    }

    public int ways(int line, int tune, int what) {
        if (!areKnown(line, tune)) {
            return UNKNOWN;
        }
        if (!isWithin(what, 0, 2)) {
            return OUTSIDE;
        }
        loom.take(book, line, tune);
        switch (what) {
            case 0:
                return loom.howManyLayings();
            case 1:
                return loom.howManyLeast();
            default:
                return loom.greatestCost();
        }
    }

    public int sung(int line, int tune, int j, int what) {
        if (!areKnown(line, tune)) {
            return UNKNOWN;
        }
        if (!isWithin(j, 0, book.tunes[tune].size - 1) || !isWithin(what, 0, 1)) {
            return OUTSIDE;
        }
        loom.take(book, line, tune);
        return what == 0 ? loom.firstSungOn(j) : loom.howManySungOn(j);
    }

    // ---- 3 verses

    public int verse(int tune) {
        return isTune(tune) ? verseOf(tune) : UNKNOWN;
    }

    public int best(int what) {
        if (!isWithin(what, 0, 1)) {
            return OUTSIDE;
        }
        int bestTune = NONE;
        int bestVerse = NONE;
        for (int tune = 0; tune < TUNES; tune++) {
            int thisVerse = verseOf(tune);
            if (isCheaper(thisVerse, bestVerse)) {
                bestTune = tune;
                bestVerse = thisVerse;
            }
        }
        return what == 0 ? bestTune : bestVerse;
    }

    public int turned(int line, int tune, int what) {
        if (!areKnown(line, tune)) {
            return UNKNOWN;
        }
        if (!isWithin(what, 0, 1)) {
            return OUTSIDE;
        }
        int bestTurn = NONE;
        int bestCost = NONE;
        int notes = book.tunes[tune].size;
        for (int k = 0; k < notes; k++) {
            loom.take(book, line, tune);
            loom.turnTune(book.tunes[tune], k);
            int thisCost = loom.leastCost();
            if (isCheaper(thisCost, bestCost)) {
                bestTurn = k;
                bestCost = thisCost;
            }
        }
        return what == 0 ? bestTurn : bestCost;
    }

    public int anew(int line, int tune, int what) {
        if (!areKnown(line, tune)) {
            return UNKNOWN;
        }
        if (!isWithin(what, 0, 2)) {
            return OUTSIDE;
        }
        int bestSyllable = NONE;
        int bestStress = NONE;
        loom.take(book, line, tune);
        int bestCost = loom.leastCost();
        int syllables = book.lines[line].size;
        for (int i = 0; i < syllables; i++) {
            // The stress that it has is tried too: by that it never costs less than now.
            for (int stress = 0; stress <= MAX_STRESS; stress++) {
                loom.take(book, line, tune);
                loom.stressSyllable(i, stress);
                int thisCost = loom.leastCost();
                if (isCheaper(thisCost, bestCost)) {
                    bestSyllable = i;
                    bestStress = stress;
                    bestCost = thisCost;
                }
            }
        }
        if (what == 2) {
            return bestSyllable == NONE ? NONE : bestCost;
        }
        return what == 0 ? bestSyllable : bestStress;
    }

    // ---- 4 images

    public int image(int k) {
        if (!isWithin(k, 0, IMAGES - 1)) {
            return OUTSIDE;
        }
        images[k].copyFrom(book);
        keptImages |= 1 << k;
        return 1;
    }

    public int restore(int k) {
        if (!isWithin(k, 0, IMAGES - 1)) {
            return OUTSIDE;
        }
        if ((keptImages >> k & 1) == 0) {
            return STATE;
        }
        book.copyFrom(images[k]);
        return 1;
    }

    public int count(int what) {
        if (isWithin(what, COUNT_RULES, COUNT_RULES + RULES - 1)) {
            return book.rules[what - COUNT_RULES];
        }
        switch (what) {
            case 0:
                return book.syllablesInAll();
            case 1:
                return book.notesInAll();
            case 2:
                return pad.size;
            case 3:
                return book.lengthsInAll();
            case 4:
                return keptImages;
            default:
                return OUTSIDE;
        }
    }

    // ---- what several calls share

    private static boolean isWithin(int number, int from, int to) {
        return number >= from && number <= to;
    }

    private static boolean isLine(int line) {
        return isWithin(line, 0, LINES - 1);
    }

    private static boolean isTune(int tune) {
        return isWithin(tune, 0, TUNES - 1);
    }

    private static boolean areKnown(int line, int tune) {
        return isLine(line) && isTune(tune);
    }

    /** Either may be NONE: what there is goes ahead of NONE, and nothing is cheaper by being NONE. */
    private static boolean isCheaper(int thisCost, int bestCost) {
        return thisCost != NONE && (bestCost == NONE || thisCost < bestCost);
    }

    private static int partOf(Row row, int i, int what) {
        if (!isWithin(what, 0, 1)) {
            return OUTSIDE;
        }
        if (i == -1) {
            return row.size;
        }
        if (!isWithin(i, 0, row.size - 1)) {
            return NONE;
        }
        return what == 0 ? row.weights[i] : row.spans[i];
    }

    private int verseOf(int tune) {
        // A line without syllables lies on a tune without notes, but makes no verse of it.
        if (book.tunes[tune].size == 0 || book.syllablesInAll() == 0) {
            return NONE;
        }
        int sum = 0;
        for (int line = 0; line < LINES; line++) {
            if (book.lines[line].size > 0) {
                loom.take(book, line, tune);
                sum += loom.leastCost();
            }
        }
        return sum;
    }

    /** The signs that have been said, and what they tell. */
    private static final class Pad {
        final int[] signs = new int[MAX_SIGNS];
        int size = 0;

        void put(int sign) {
            if (size < MAX_SIGNS) {
                signs[size] = sign;
                size++;
            }
        }

        void clear() {
            size = 0;
        }

        int faultAsLine() {
            int syllables = 0;
            boolean mayLengthen = false;
            for (int at = 0; at < size; at++) {
                if (mayLengthen && signs[at] == '-') {
                    mayLengthen = false;
                } else if (syllables < MAX_SYLLABLES && isWithin(signs[at], '0', '0' + MAX_STRESS)) {
                    syllables++;
                    mayLengthen = true;
                } else {
                    return at;
                }
            }
            return NONE;
        }

        /** The pad has no room for signs of more than the 11 notes, so these aren't counted. */
        int faultAsTune() {
            for (int at = 0; at < size; at++) {
                boolean isBeat = at % 2 == 0;
                boolean fits = isBeat
                        ? isWithin(signs[at], '0', '0' + MAX_BEAT)
                        : isWithin(signs[at], '1', '0' + MAX_LENGTH);
                if (!fits) {
                    return at;
                }
            }
            return size % 2 == 0 ? NONE : size;
        }

        /** Only for a pad without a fault as a line. */
        void readLine(Row row) {
            row.clear();
            for (int at = 0; at < size; at++) {
                if (signs[at] == '-') {
                    row.lengthenLast();
                } else {
                    row.add(signs[at] - '0', 0);
                }
            }
        }

        /** Only for a pad without a fault as a tune. */
        void readTune(Row row) {
            row.clear();
            for (int at = 0; at + 1 < size; at += 2) {
                row.add(signs[at] - '0', signs[at + 1] - '0');
            }
        }

        boolean hasStepsOnly() {
            for (int at = 0; at < size; at++) {
                if (stepAt(at) == NO_STEP) {
                    return false;
                }
            }
            return true;
        }

        int stepAt(int at) {
            if (!isWithin(at, 0, size - 1)) {
                return NO_STEP;
            }
            switch (signs[at]) {
                case 'o':
                    return STEP_O;
                case 'h':
                    return STEP_H;
                case 's':
                    return STEP_S;
                default:
                    return NO_STEP;
            }
        }
    }

    /** A line: stresses, and a span of 1 where it is long, else 0. Or a tune: beats, and lengths as spans. */
    private static final class Row {
        final int room;
        final int[] weights;
        final int[] spans;
        int size = 0;

        Row(int room) {
            this.room = Math.max(room, 0);
            weights = new int[this.room];
            spans = new int[this.room];
        }

        void clear() {
            size = 0;
        }

        void add(int weight, int span) {
            if (size < room) {
                weights[size] = weight;
                spans[size] = span;
                size++;
            }
        }

        void lengthenLast() {
            if (size > 0) {
                spans[size - 1] = 1;
            }
        }

        void addPlaces(Row other, int from, int to) {
            int end = Math.min(to, other.size);
            for (int i = Math.max(from, 0); i < end; i++) {
                add(other.weights[i], other.spans[i]);
            }
        }

        void copyFrom(Row other) {
            clear();
            addPlaces(other, 0, other.size);
        }

        int spansInAll() {
            int sum = 0;
            for (int i = 0; i < size; i++) {
                sum += spans[i];
            }
            return sum;
        }
    }

    /** All that an image keeps. */
    private static final class Book {
        final Row[] lines = new Row[LINES];
        final Row[] tunes = new Row[TUNES];
        final int[] rules = {3, 2, 4, 2};

        Book() {
            for (int line = 0; line < LINES; line++) {
                lines[line] = new Row(MAX_SYLLABLES);
            }
            for (int tune = 0; tune < TUNES; tune++) {
                tunes[tune] = new Row(MAX_NOTES);
            }
        }

        void copyFrom(Book other) {
            for (int line = 0; line < LINES; line++) {
                lines[line].copyFrom(other.lines[line]);
            }
            for (int tune = 0; tune < TUNES; tune++) {
                tunes[tune].copyFrom(other.tunes[tune]);
            }
            System.arraycopy(other.rules, 0, rules, 0, RULES);
        }

        int syllablesInAll() {
            int sum = 0;
            for (int line = 0; line < LINES; line++) {
                sum += lines[line].size;
            }
            return sum;
        }

        int notesInAll() {
            int sum = 0;
            for (int tune = 0; tune < TUNES; tune++) {
                sum += tunes[tune].size;
            }
            return sum;
        }

        int lengthsInAll() {
            int sum = 0;
            for (int tune = 0; tune < TUNES; tune++) {
                sum += tunes[tune].spansInAll();
            }
            return sum;
        }
    }

    /**
     * A line and a tune that are laid on one another, copied so that a turn or another stress can be tried.
     * A place (i, j) on the way is where i syllables and j notes have come. The tables tell of each place
     * about all the ways from there to the end; so the first of the cheapest is found by going ahead.
     */
    private static final class Loom {
        final Row words = new Row(MAX_SYLLABLES);
        final Row melody = new Row(MAX_NOTES);
        final int[] rules = new int[RULES];
        final int[][] leastFrom = new int[MAX_SYLLABLES + 1][MAX_NOTES + 1];
        final int[][] greatestFrom = new int[MAX_SYLLABLES + 1][MAX_NOTES + 1];
        final int[][] layingsFrom = new int[MAX_SYLLABLES + 1][MAX_NOTES + 1];
        final int[][] leastLayingsFrom = new int[MAX_SYLLABLES + 1][MAX_NOTES + 1];
        final int[] steps = new int[MAX_STEPS];
        int stepsTaken = 0;
        final int[] firstOn = new int[MAX_NOTES];
        final int[] howManyOn = new int[MAX_NOTES];

        void take(Book book, int line, int tune) {
            words.copyFrom(book.lines[line]);
            melody.copyFrom(book.tunes[tune]);
            System.arraycopy(book.rules, 0, rules, 0, RULES);
        }

        void turnTune(Row tune, int k) {
            melody.clear();
            melody.addPlaces(tune, k, tune.size);
            melody.addPlaces(tune, 0, k);
        }

        void stressSyllable(int i, int stress) {
            if (isWithin(i, 0, words.size - 1)) {
                words.weights[i] = stress;
            }
        }

        int costOf(Pad pad) {
            int i = 0;
            int j = 0;
            int sum = 0;
            for (int at = 0; at < pad.size; at++) {
                int step = pad.stepAt(at);
                if (!canStep(step, i, j)) {
                    return NO;
                }
                sum += stepCost(step, i, j);
                i += SYLLABLES_ON[step];
                j += NOTES_ON[step];
            }
            return isEnd(i, j) ? sum : NO;
        }

        int leastCost() {
            if (!hasLaying()) {
                return NONE;
            }
            weigh();
            return leastFrom[0][0];
        }

        int greatestCost() {
            return tallied(greatestFrom, NONE);
        }

        int howManyLayings() {
            return tallied(layingsFrom, 0);
        }

        int howManyLeast() {
            return tallied(leastLayingsFrom, 0);
        }

        int tallied(int[][] table, int withoutLaying) {
            if (!hasLaying()) {
                return withoutLaying;
            }
            weigh();
            tally();
            return table[0][0];
        }

        int leastStep(int at) {
            if (!hasLaying()) {
                return NONE;
            }
            weigh();
            trace();
            return isWithin(at, 0, stepsTaken - 1) ? steps[at] : NONE;
        }

        int firstSungOn(int note) {
            return traced(firstOn, note);
        }

        int howManySungOn(int note) {
            return traced(howManyOn, note);
        }

        int traced(int[] row, int note) {
            if (!hasLaying() || !isWithin(note, 0, melody.size - 1)) {
                return NONE;
            }
            weigh();
            trace();
            return row[note];
        }

        boolean hasLaying() {
            return (words.size == 0) == (melody.size == 0);
        }

        boolean isEnd(int i, int j) {
            return i == words.size && j == melody.size;
        }

        boolean canStep(int step, int i, int j) {
            switch (step) {
                case STEP_O:
                    return i < words.size && j < melody.size;
                case STEP_H:
                    return i > 0 && j < melody.size;
                case STEP_S:
                    return i < words.size && j > 0;
                default:
                    return false;
            }
        }

        /** Only for a step that can be taken. */
        int stepCost(int step, int i, int j) {
            if (step == STEP_H) {
                return rules[HOLD];
            }
            int note = step == STEP_O ? j : j - 1;
            int fit = rules[FIT] * Math.abs(words.weights[i] - melody.weights[note]);
            if (step == STEP_S) {
                return rules[SHARE] + fit;
            }
            boolean isCut = words.spans[i] == 1 && melody.spans[note] == 1;
            return isCut ? rules[SHORT] + fit : fit;
        }

        /** No way goes through (0, j) or (i, 0) but at the beginning, as the first step is o. */
        void weigh() {
            for (int i = words.size; i >= 1; i--) {
                for (int j = melody.size; j >= 1; j--) {
                    leastFrom[i][j] = leastAt(i, j);
                }
            }
            leastFrom[0][0] = leastAt(0, 0);
        }

        int leastAt(int i, int j) {
            int least = isEnd(i, j) ? 0 : NONE;
            for (int step = 0; step < STEPS; step++) {
                if (canStep(step, i, j)) {
                    int after = leastFrom[i + SYLLABLES_ON[step]][j + NOTES_ON[step]];
                    int whole = stepCost(step, i, j) + after;
                    least = isCheaper(whole, least) ? whole : least;
                }
            }
            return least;
        }

        /** Only behind weigh. */
        void tally() {
            for (int i = words.size; i >= 1; i--) {
                for (int j = melody.size; j >= 1; j--) {
                    tallyPlace(i, j);
                }
            }
            tallyPlace(0, 0);
        }

        void tallyPlace(int i, int j) {
            int greatest = 0;
            int layings = isEnd(i, j) ? 1 : 0;
            int leastLayings = layings;
            for (int step = 0; step < STEPS; step++) {
                if (canStep(step, i, j)) {
                    int nextI = i + SYLLABLES_ON[step];
                    int nextJ = j + NOTES_ON[step];
                    int price = stepCost(step, i, j);
                    greatest = Math.max(greatest, price + greatestFrom[nextI][nextJ]);
                    layings += layingsFrom[nextI][nextJ];
                    if (price + leastFrom[nextI][nextJ] == leastFrom[i][j]) {
                        leastLayings += leastLayingsFrom[nextI][nextJ];
                    }
                }
            }
            greatestFrom[i][j] = greatest;
            layingsFrom[i][j] = layings;
            leastLayingsFrom[i][j] = leastLayings;
        }

        /** Goes along LEAST, only behind weigh. A syllable that is held on a note is sung on it, too. */
        void trace() {
            for (int note = 0; note < MAX_NOTES; note++) {
                firstOn[note] = NONE;
                howManyOn[note] = 0;
            }
            stepsTaken = 0;
            int i = 0;
            int j = 0;
            for (int at = 0; at < MAX_STEPS; at++) {
                int step = leastStepFrom(i, j);
                if (step == NO_STEP) {
                    return;
                }
                i += SYLLABLES_ON[step];
                j += NOTES_ON[step];
                steps[at] = step;
                stepsTaken++;
                if (firstOn[j - 1] == NONE) {
                    firstOn[j - 1] = i - 1;
                }
                howManyOn[j - 1]++;
            }
        }

        int leastStepFrom(int i, int j) {
            for (int step = 0; step < STEPS; step++) {
                if (canStep(step, i, j)) {
                    int after = leastFrom[i + SYLLABLES_ON[step]][j + NOTES_ON[step]];
                    if (stepCost(step, i, j) + after == leastFrom[i][j]) {
                        return step;
                    }
                }
            }
            return NO_STEP;
        }
    }
}
