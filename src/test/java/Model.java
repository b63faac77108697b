import java.util.ArrayList;
import java.util.List;

/**
 * The document told once more, for comparing: texts instead of rows, and every laying gone through
 * one by one instead of tables.
 */
final class Model {
    /** A line as "2-", "0".. or a tune as "21", "04"..: one text a syllable, a note. */
    static final class State {
        final List<List<String>> lines = new ArrayList<>();
        final List<List<String>> tunes = new ArrayList<>();
        int[] rules = {3, 2, 4, 2};

        State() {
            for (int i = 0; i < 3; i++) {
                lines.add(List.of());
            }
            for (int i = 0; i < 4; i++) {
                tunes.add(List.of());
            }
        }

        State copy() {
            State it = new State();
            for (int i = 0; i < 3; i++) {
                it.lines.set(i, lines.get(i));
            }
            for (int i = 0; i < 4; i++) {
                it.tunes.set(i, tunes.get(i));
            }
            it.rules = rules.clone();
            return it;
        }
    }

    /** What going through all layings of a line on a tune finds. */
    static final class Found {
        int layings = 0;
        int least = Integer.MAX_VALUE;
        int leastLayings = 0;
        int greatest = Integer.MIN_VALUE;
        String first = null;
    }

    private String pad = "";
    private State now = new State();
    private final State[] images = new State[2];

    int say(int sign) {
        if (sign < 33 || sign > 126) {
            return -2;
        }
        if (pad.length() == 22) {
            return -4;
        }
        pad += (char) sign;
        return pad.length();
    }

    int wipe() {
        int had = pad.length();
        pad = "";
        return had;
    }

    int fault(int how) {
        if (how != 0 && how != 1) {
            return -2;
        }
        String whole = how == 0 ? "([012]-?){0,9}" : "([012][1-4]){0,11}";
        String begun = how == 0 ? whole : "([012][1-4]){0,11}|([012][1-4]){0,10}[012]";
        if (pad.matches(whole)) {
            return -6;
        }
        for (int at = 0; at < pad.length(); at++) {
            if (!pad.substring(0, at + 1).matches(begun)) {
                return at;
            }
        }
        return pad.length();
    }

    int line(int line) {
        if (line < 0 || line > 2) {
            return -1;
        }
        if (fault(0) != -6) {
            return -7;
        }
        List<String> syllables = new ArrayList<>();
        for (String text : pad.split("(?=[012])")) {
            if (!text.isEmpty()) {
                syllables.add(text);
            }
        }
        now.lines.set(line, syllables);
        pad = "";
        return syllables.size();
    }

    int tune(int tune) {
        if (tune < 0 || tune > 3) {
            return -1;
        }
        if (fault(1) != -6) {
            return -7;
        }
        List<String> notes = new ArrayList<>();
        for (int at = 0; at < pad.length(); at += 2) {
            notes.add(pad.substring(at, at + 2));
        }
        now.tunes.set(tune, notes);
        pad = "";
        return notes.size();
    }

    int rule(int what, int v) {
        if (what < 0 || what > 3 || v < 0 || v > 9) {
            return -2;
        }
        int was = now.rules[what];
        now.rules[what] = v;
        return was;
    }

    int syllable(int line, int i, int what) {
        if (line < 0 || line > 2) {
            return -1;
        }
        if (what < 0 || what > 1) {
            return -2;
        }
        List<String> row = now.lines.get(line);
        if (i == -1) {
            return row.size();
        }
        if (i < 0 || i >= row.size()) {
            return -6;
        }
        return what == 0 ? stress(row.get(i)) : row.get(i).length() - 1;
    }

    int note(int tune, int i, int what) {
        if (tune < 0 || tune > 3) {
            return -1;
        }
        if (what < 0 || what > 1) {
            return -2;
        }
        List<String> row = now.tunes.get(tune);
        if (i == -1) {
            return row.size();
        }
        if (i < 0 || i >= row.size()) {
            return -6;
        }
        return row.get(i).charAt(what) - '0';
    }

    int cost(int line, int tune) {
        if (areUnknown(line, tune)) {
            return -1;
        }
        if (!pad.matches("[ohs]*")) {
            return -7;
        }
        return costOf(now.lines.get(line), now.tunes.get(tune), pad);
    }

    int least(int line, int tune, int i) {
        if (areUnknown(line, tune)) {
            return -1;
        }
        if (i < -1) {
            return -2;
        }
        Found it = allLayings(now.lines.get(line), now.tunes.get(tune));
        if (it.layings == 0) {
            return -6;
        }
        if (i == -1) {
            return it.least;
        }
        return i < it.first.length() ? "ohs".indexOf(it.first.charAt(i)) : -6;
    }

    int ways(int line, int tune, int what) {
        if (areUnknown(line, tune)) {
            return -1;
        }
        if (what < 0 || what > 2) {
            return -2;
        }
        Found it = allLayings(now.lines.get(line), now.tunes.get(tune));
        if (what == 2) {
            return it.layings == 0 ? -6 : it.greatest;
        }
        return what == 0 ? it.layings : it.leastLayings;
    }

    int sung(int line, int tune, int j, int what) {
        if (areUnknown(line, tune)) {
            return -1;
        }
        if (j < 0 || j >= now.tunes.get(tune).size() || what < 0 || what > 1) {
            return -2;
        }
        Found it = allLayings(now.lines.get(line), now.tunes.get(tune));
        if (it.layings == 0) {
            return -6;
        }
        List<Integer> onNote = new ArrayList<>();
        int syllable = -1;
        int note = -1;
        for (char step : it.first.toCharArray()) {
            syllable += step == 'h' ? 0 : 1;
            note += step == 's' ? 0 : 1;
            if (note == j) {
                onNote.add(syllable);
            }
        }
        return what == 0 ? onNote.get(0) : onNote.size();
    }

    int verse(int tune) {
        if (tune < 0 || tune > 3) {
            return -1;
        }
        int sum = 0;
        boolean some = false;
        for (List<String> row : now.lines) {
            if (!row.isEmpty()) {
                Found it = allLayings(row, now.tunes.get(tune));
                if (it.layings == 0) {
                    return -6;
                }
                some = true;
                sum += it.least;
            }
        }
        return some ? sum : -6;
    }

    int best(int what) {
        if (what < 0 || what > 1) {
            return -2;
        }
        int best = -6;
        for (int tune = 3; tune >= 0; tune--) {
            if (verse(tune) != -6 && (best == -6 || verse(tune) <= verse(best))) {
                best = tune;
            }
        }
        return what == 0 || best == -6 ? best : verse(best);
    }

    int turned(int line, int tune, int what) {
        if (areUnknown(line, tune)) {
            return -1;
        }
        if (what < 0 || what > 1) {
            return -2;
        }
        List<String> notes = new ArrayList<>(now.tunes.get(tune));
        int best = -6;
        int bestCost = -6;
        int size = notes.size();
        for (int k = 0; k < size; k++) {
            Found it = allLayings(now.lines.get(line), notes);
            if (it.layings > 0 && (best == -6 || it.least < bestCost)) {
                best = k;
                bestCost = it.least;
            }
            notes.add(notes.remove(0));
        }
        return what == 0 ? best : bestCost;
    }

    int anew(int line, int tune, int what) {
        if (areUnknown(line, tune)) {
            return -1;
        }
        if (what < 0 || what > 2) {
            return -2;
        }
        List<String> row = new ArrayList<>(now.lines.get(line));
        Found asIs = allLayings(row, now.tunes.get(tune));
        if (asIs.layings == 0) {
            return -6;
        }
        int[] best = {-6, -6, asIs.least};
        for (int i = 0; i < row.size(); i++) {
            String was = row.get(i);
            for (int stress = 0; stress <= 2; stress++) {
                row.set(i, stress + was.substring(1));
                int cost = stress == stress(was) ? asIs.least : allLayings(row, now.tunes.get(tune)).least;
                if (cost < best[2]) {
                    best = new int[] {i, stress, cost};
                }
            }
            row.set(i, was);
        }
        return best[0] == -6 ? -6 : best[what];
    }

    int image(int k) {
        if (k < 0 || k > 1) {
            return -2;
        }
        images[k] = now.copy();
        return 1;
    }

    int restore(int k) {
        if (k < 0 || k > 1) {
            return -2;
        }
        if (images[k] == null) {
            return -3;
        }
        now = images[k].copy();
        return 1;
    }

    int count(int what) {
        switch (what) {
            case 0:
                return now.lines.stream().mapToInt(List::size).sum();
            case 1:
                return now.tunes.stream().mapToInt(List::size).sum();
            case 2:
                return pad.length();
            case 3:
                return now.tunes.stream().flatMap(List::stream).mapToInt(n -> n.charAt(1) - '0').sum();
            case 4:
                return (images[0] == null ? 0 : 1) + (images[1] == null ? 0 : 2);
            default:
                return what >= 10 && what <= 13 ? now.rules[what - 10] : -2;
        }
    }

    private static boolean areUnknown(int line, int tune) {
        return line < 0 || line > 2 || tune < 0 || tune > 3;
    }

    private static int stress(String syllable) {
        return syllable.charAt(0) - '0';
    }

    private int fit(String syllable, String note) {
        return now.rules[0] * Math.abs(syllable.charAt(0) - note.charAt(0));
    }

    private int priceOfO(String syllable, String note) {
        boolean cut = syllable.endsWith("-") && note.endsWith("1");
        return fit(syllable, note) + (cut ? now.rules[3] : 0);
    }

    private int costOf(List<String> line, List<String> tune, String laying) {
        int syllable = -1;
        int note = -1;
        int sum = 0;
        for (char step : laying.toCharArray()) {
            if (note == -1 && step != 'o') {
                return -5;
            }
            syllable += step == 'h' ? 0 : 1;
            note += step == 's' ? 0 : 1;
            if (syllable >= line.size() || note >= tune.size()) {
                return -5;
            }
            if (step == 'o') {
                sum += priceOfO(line.get(syllable), tune.get(note));
            } else if (step == 'h') {
                sum += now.rules[1];
            } else {
                sum += fit(line.get(syllable), tune.get(note)) + now.rules[2];
            }
        }
        return syllable == line.size() - 1 && note == tune.size() - 1 ? sum : -5;
    }

    private Found allLayings(List<String> line, List<String> tune) {
        Found found = new Found();
        goOn(line, tune, new char[24], 0, new int[] {-1, -1, 0}, found);
        return found;
    }

    /** at: the syllable and the note that came last, and the cost so far. */
    private void goOn(List<String> line, List<String> tune, char[] steps, int taken, int[] at, Found found) {
        int syllable = at[0] + 1;
        int note = at[1] + 1;
        if (syllable == line.size() && note == tune.size()) {
            found.layings++;
            found.greatest = Math.max(found.greatest, at[2]);
            if (at[2] < found.least) {
                found.least = at[2];
                found.leastLayings = 0;
                found.first = new String(steps, 0, taken);
            }
            found.leastLayings += at[2] == found.least ? 1 : 0;
            return;
        }
        if (syllable < line.size() && note < tune.size()) {
            steps[taken] = 'o';
            int price = priceOfO(line.get(syllable), tune.get(note));
            goOn(line, tune, steps, taken + 1, new int[] {syllable, note, at[2] + price}, found);
        }
        if (taken > 0 && note < tune.size()) {
            steps[taken] = 'h';
            goOn(line, tune, steps, taken + 1, new int[] {syllable - 1, note, at[2] + now.rules[1]}, found);
        }
        if (taken > 0 && syllable < line.size()) {
            steps[taken] = 's';
            int price = fit(line.get(syllable), tune.get(note - 1)) + now.rules[2];
            goOn(line, tune, steps, taken + 1, new int[] {syllable, note - 1, at[2] + price}, found);
        }
    }
}
