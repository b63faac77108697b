import java.util.Random;

/** Long mixed runs of calls, right and wrong ones, each answer compared with that of the model. */
public final class ModelTest {
    private static final int RUNS = 1500;
    /** With what compares the state behind them they stay within the 512 calls of an object. */
    private static final int CALLS = 270;

    private final Check check;
    private final Random random;
    private final int run;
    private final TuneWords words = new TuneWords();
    private final Model model = new Model();

    private ModelTest(Check check, int run) {
        this.check = check;
        this.run = run;
        this.random = new Random(run);
    }

    public static void main(String[] args) {
        Check check = new Check("ModelTest");
        for (int run = 0; run < RUNS && !check.hasFailed(); run++) {
            new ModelTest(check, run).mixedRun();
        }
        for (int run = 0; run < 3 && !check.hasFailed(); run++) {
            new ModelTest(check, run).fullSizeRun();
        }
        check.end();
    }

    private void mixedRun() {
        if (random.nextInt(4) == 0) {
            looseRules();
        }
        int made = 0;
        while (made < CALLS) {
            made += random.nextInt(3) == 0 ? sayPhraseAndUseIt() : anyCall();
        }
        compareState();
    }

    /** Rules under which h and s beside one another are cheaper than o, and many layings cost the same. */
    private void looseRules() {
        for (int what = 0; what < 4; what++) {
            int v = what == 3 ? 9 : random.nextInt(3);
            due("rule " + what + " " + v, words.rule(what, v), model.rule(what, v));
        }
    }

    private int sayPhraseAndUseIt() {
        int kind = random.nextInt(8);
        String phrase = kind < 3 ? linePhrase(random.nextInt(6)) : kind < 6 ? tunePhrase(random.nextInt(7)) : layingPhrase();
        if (random.nextInt(3) > 0) {
            due("wipe", words.wipe(), model.wipe());
        }
        if (random.nextInt(12) == 0) {
            phrase += (char) (33 + random.nextInt(94));
        }
        sayAll(phrase);
        int line = lineNumber();
        int tune = tuneNumber();
        if (kind < 3) {
            due("line " + line, words.line(line), model.line(line));
        } else if (kind < 6) {
            due("tune " + tune, words.tune(tune), model.tune(tune));
        } else {
            due("cost " + line + " " + tune, words.cost(line, tune), model.cost(line, tune));
        }
        return phrase.length() + 2;
    }

    private void sayAll(String phrase) {
        for (char sign : phrase.toCharArray()) {
            due("say " + sign, words.say(sign), model.say(sign));
        }
    }

    private String linePhrase(int syllables) {
        StringBuilder text = new StringBuilder();
        for (int i = 0; i < syllables; i++) {
            text.append(random.nextInt(3)).append(random.nextInt(3) == 0 ? "-" : "");
        }
        return text.toString();
    }

    private String tunePhrase(int notes) {
        StringBuilder text = new StringBuilder();
        for (int i = 0; i < notes; i++) {
            text.append(random.nextInt(3)).append(random.nextBoolean() ? 1 : 1 + random.nextInt(4));
        }
        return text.toString();
    }

    private String layingPhrase() {
        StringBuilder text = new StringBuilder(random.nextInt(5) == 0 ? "" : "o");
        int steps = random.nextInt(7);
        for (int i = 0; i < steps; i++) {
            text.append("ooohhss".charAt(random.nextInt(7)));
        }
        return text.toString();
    }

    /** Mostly from low to high, now and then just beside, seldom far away. */
    private int number(int low, int high) {
        int which = random.nextInt(60);
        if (which == 0) {
            return low - 1;
        }
        if (which == 1) {
            return high + 1;
        }
        if (which == 2) {
            return random.nextBoolean() ? Integer.MIN_VALUE : Integer.MAX_VALUE;
        }
        return low + random.nextInt(high - low + 1);
    }

    private int lineNumber() {
        return number(0, 2);
    }

    private int tuneNumber() {
        return number(0, 3);
    }

    private int anyCall() {
        int l = lineNumber();
        int t = tuneNumber();
        int i = number(-1, 8);
        int which = random.nextInt(20);
        int what = number(0, which == 8 || which == 12 ? 2 : 1);
        int v = number(0, 9);
        String told = " " + l + " " + t + " " + i + " " + what;
        switch (which) {
            case 0: return due("say", words.say(v + 30), model.say(v + 30));
            case 1: return due("say", words.say(v + 119), model.say(v + 119));
            case 2: return random.nextInt(4) > 0 ? 0 : due("wipe", words.wipe(), model.wipe());
            case 3: return due("fault " + what, words.fault(what), model.fault(what));
            case 4: return due("rule " + t + " " + v, words.rule(t, v), model.rule(t, v));
            case 5: return due("syllable" + told, words.syllable(l, i, what), model.syllable(l, i, what));
            case 6: return due("note" + told, words.note(t, i, what), model.note(t, i, what));
            case 7: return due("least" + told, words.least(l, t, i), model.least(l, t, i));
            case 8: return due("ways" + told, words.ways(l, t, what), model.ways(l, t, what));
            case 9: return due("sung" + told, words.sung(l, t, i, what), model.sung(l, t, i, what));
            case 10: return due("verse" + told, words.verse(t), model.verse(t));
            case 11: return due("turned" + told, words.turned(l, t, what), model.turned(l, t, what));
            case 12: return due("anew" + told, words.anew(l, t, what), model.anew(l, t, what));
            case 13: return due("best" + told, words.best(what), model.best(what));
            case 14: return random.nextInt(4) > 0 ? 0 : due("image" + told, words.image(what), model.image(what));
            case 15: return random.nextInt(4) > 0 ? 0 : due("restore" + told, words.restore(what), model.restore(what));
            case 16: return due("count" + told, words.count(i), model.count(i));
            case 17: return due("count" + told, words.count(t + 10), model.count(t + 10));
            case 18: return due("cost" + told, words.cost(l, t), model.cost(l, t));
            default: return due("tune" + told, words.tune(t), model.tune(t));
        }
    }

    private int due(String call, int got, int want) {
        check.due("run " + run + ": " + call, got, want);
        return 1;
    }

    private void compareState() {
        for (int what = -1; what <= 14; what++) {
            due("count " + what, words.count(what), model.count(what));
        }
        for (int what = 0; what < 2; what++) {
            due("fault " + what, words.fault(what), model.fault(what));
            for (int i = -2; i <= 11; i++) {
                for (int l = 0; l < 3; l++) {
                    due("syllable", words.syllable(l, i, what), model.syllable(l, i, what));
                }
                for (int t = 0; t < 4 && i > -2; t++) {
                    due("note", words.note(t, i, what), model.note(t, i, what));
                }
            }
        }
    }

    /** Nine syllables on eleven notes: some 1.2 million layings, gone through one by one. */
    private void fullSizeRun() {
        sayAll(linePhrase(9));
        due("line", words.line(2), model.line(2));
        sayAll(tunePhrase(11));
        due("tune", words.tune(3), model.tune(3));
        if (run == 2) {
            looseRules();
        }
        for (int i = -1; i <= 20; i += run == 0 ? 1 : 6) {
            due("least " + i, words.least(2, 3, i), model.least(2, 3, i));
        }
        for (int what = 0; what < 3; what++) {
            due("ways " + what, words.ways(2, 3, what), model.ways(2, 3, what));
        }
        due("turned", words.turned(2, 3, run % 2), model.turned(2, 3, run % 2));
        due("anew", words.anew(2, 3, run), model.anew(2, 3, run));
        for (int j = 0; j < 11; j += 5) {
            due("sung", words.sung(2, 3, j, 0), model.sung(2, 3, j, 0));
            due("sung", words.sung(2, 3, j, 1), model.sung(2, 3, j, 1));
        }
    }
}
