/** Promises 18 to 20, sentence by sentence: the ends of each range, empty and full, what is refused. */
public final class EdgeImagesTest {
    private static final int OUTSIDE = -2, STATE = -3, NONE = -6;
    private static final Edges EDGES = new Edges("EdgeImagesTest");

    public static void main(String[] args) {
        EDGES.runAll(EdgeImagesTest.class, "promise18Image", "promise19Restore", "promise20Count");
    }

    private static void due(String call, int got, int want) {
        EDGES.due(call, got, want);
    }

    /** Three states that differ in each line, each tune and each rule. */
    private static void lead(TuneWords x, int which) {
        String[] lines = {"", "2-0", Edges.NINE_LONG};
        String[] tunes = {"", "1422", Edges.ELEVEN};
        for (int line = 0; line <= 2; line++) {
            Edges.setLine(x, line, lines[(which + line) % 3]);
        }
        for (int tune = 0; tune <= 3; tune++) {
            Edges.setTune(x, tune, tunes[(which + tune) % 3]);
        }
        Edges.setRules(x, which * 4, 9 - which, which, which == 2 ? 0 : 9);
    }

    // ---- promise 18: "All but THE PAD and IMAGES is kept in an IMAGE (0, 1), in place of what was kept there: 1.
    // OUTSIDE."

    static void promise18ImageOutside() {
        for (int k : Edges.beside(0, 1)) {
            EDGES.refused("image " + k, x -> x.image(k), OUTSIDE);
        }
    }

    static void promise18ImageAnswers1() {
        for (int k = 0; k <= 1; k++) {
            TuneWords x = new TuneWords();
            due("of a new object", x.image(k), 1);
            due("in place of that", x.image(k), 1);
            due("it alone is kept", x.count(4), 1 << k);
            due("the other is not", x.restore(1 - k), STATE);
            x = new TuneWords();
            Edges.leadToAllFull(x);
            due("of all full", x.image(k), 1);
        }
    }

    static void promise18ImageKeepsAllButThePad() {
        for (int k = 0; k <= 1; k++) {
            int kept = k;
            for (int from = 0; from <= 2; from++) {
                for (int to = 0; to <= 2; to++) {
                    int first = from;
                    int second = to;
                    EDGES.alike("state " + from + " kept, behind state " + to, x -> {
                        lead(x, first);
                        Edges.sayAll(x, "abc");
                        x.image(kept);
                        lead(x, second);
                        Edges.sayAll(x, "01");
                        x.restore(kept);
                    }, x -> {
                        lead(x, first);
                        x.image(kept);
                        Edges.sayAll(x, "01");
                    });
                }
            }
        }
    }

    static void promise18ImageInPlaceOfWhatWasKeptThere() {
        for (int k = 0; k <= 1; k++) {
            int kept = k;
            EDGES.alike("kept twice", x -> {
                lead(x, 2);
                x.image(kept);
                lead(x, 1);
                x.image(kept);
                lead(x, 0);
            }, x -> {
                lead(x, 1);
                x.image(kept);
                lead(x, 0);
            });
        }
    }

    static void promise18ImageLeavesTheOther() {
        for (int k = 0; k <= 1; k++) {
            int kept = k;
            TuneWords x = new TuneWords();
            lead(x, 1);
            x.image(kept);
            lead(x, 2);
            x.image(1 - kept);
            due("both are kept", x.count(4), 3);
            x.restore(kept);
            due("the first", x.count(10), 4);
            x.restore(1 - kept);
            due("the second", x.count(10), 8);
        }
    }

    /** An image of a new object is one, too: it holds what a new object has. */
    static void promise18ImageOfANewObject() {
        EDGES.alike("a new object again", x -> {
            x.image(1);
            lead(x, 2);
            x.restore(1);
        }, x -> x.image(1));
    }

    static void promise18ImageLeavesWhatThereIs() {
        EDGES.alike("kept and kept again", x -> {
            Edges.leadToAllFull(x);
            x.image(0);
            x.image(1);
            x.image(0);
        }, x -> {
            Edges.leadToAllFull(x);
            x.image(1);
            x.image(0);
        });
        TuneWords x = Edges.withPad(Edges.ELEVEN);
        x.image(0);
        due("the pad stays", x.count(2), 22);
        due("its signs stay", x.tune(0), 11);
    }

    // ---- promise 19: "All but THE PAD and IMAGES is as it was when it was kept; the IMAGE stays: 1. OUTSIDE; STATE:
    // nothing was kept in it."

    static void promise19RestoreOutside() {
        for (int k : Edges.beside(0, 1)) {
            EDGES.refused("restore " + k, x -> x.restore(k), OUTSIDE);
        }
    }

    static void promise19RestoreState() {
        for (int k = 0; k <= 1; k++) {
            int asked = k;
            EDGES.refused("restore " + k, "a new object", x -> { }, x -> x.restore(asked), STATE);
            EDGES.refused("restore " + k, "a state without images", x -> {
                lead(x, 2);
                Edges.sayAll(x, Edges.ELEVEN);
            }, x -> x.restore(asked), STATE);
            EDGES.refused("restore " + k, "a state with the other image", x -> {
                lead(x, 1);
                x.image(1 - asked);
                lead(x, 2);
                Edges.sayAll(x, "2-01");
            }, x -> x.restore(asked), STATE);
        }
    }

    static void promise19RestoreTheImageStays() {
        for (int k = 0; k <= 1; k++) {
            TuneWords x = new TuneWords();
            lead(x, 1);
            due("image", x.image(k), 1);
            for (int again = 0; again < 3; again++) {
                due("restore", x.restore(k), 1);
                due("it is kept", x.count(4), 1 << k);
                due("syllables", x.count(0), 11);
                due("FIT", x.count(10), 4);
                x.rule(0, 9);
                Edges.setLine(x, 0, "");
                Edges.setLine(x, 1, "1-1-1-1-1-1-1-1-1-");
                Edges.setTune(x, 0, "01");
            }
            x.restore(k);
            due("stress", x.syllable(1, 0, 0), 0);
            due("stress", x.syllable(0, 0, 0), 2);
            due("length", x.note(0, 0, 1), 4);
        }
    }

    static void promise19RestoreLeavesThePad() {
        for (int many : new int[] {0, 1, 22}) {
            TuneWords x = Edges.withPad("abc");
            x.image(0);
            x.wipe();
            Edges.sayAll(x, Edges.ELEVEN.substring(0, many));
            due("restore", x.restore(0), 1);
            due("signs", x.count(2), many);
            due("they stay", x.fault(1), many == 1 ? 1 : NONE);
        }
    }

    static void promise19RestoreLeavesTheImages() {
        TuneWords x = new TuneWords();
        x.image(0);
        lead(x, 1);
        x.image(1);
        due("restore 0, when 1 was not kept yet", x.restore(0), 1);
        due("both are kept", x.count(4), 3);
        due("restore 1", x.restore(1), 1);
        due("FIT", x.count(10), 4);
        due("both are kept", x.count(4), 3);
    }

    static void promise19RestoreAtOnceChangesNothing() {
        for (int k = 0; k <= 1; k++) {
            int kept = k;
            EDGES.alike("kept and restored", x -> {
                Edges.leadToAllFull(x);
                x.image(kept);
                x.restore(kept);
            }, x -> {
                Edges.leadToAllFull(x);
                x.image(kept);
            });
        }
    }

    static void promise19RestoreOverAllFull() {
        EDGES.alike("empty over full", x -> {
            x.image(0);
            lead(x, 2);
            Edges.setLine(x, 0, Edges.NINE_LONG);
            x.restore(0);
        }, x -> x.image(0));
    }

    // ---- promise 20: "SYLLABLES of all LINES (0), NOTES of all TUNES (1), signs of THE PAD (2), LENGTHS of all NOTES,
    // added (3), which IMAGES are kept, a set: bits 0, 1 (4), RULES (10 to 13). OUTSIDE."

    static void promise20CountOutside() {
        for (int what : Edges.beside(0, 13)) {
            EDGES.refused("count " + what, x -> x.count(what), OUTSIDE);
        }
        for (int what = 5; what <= 9; what++) {
            int asked = what;
            EDGES.refused("count " + what, x -> x.count(asked), OUTSIDE);
        }
        for (int what : new int[] {-2, 15, -10, 260, 266}) {
            EDGES.refused("count " + what, x -> x.count(what), OUTSIDE);
        }
    }

    private static void dueCounts(TuneWords x, int... counts) {
        for (int what = 0; what <= 4; what++) {
            due("count " + what, x.count(what), counts[what]);
        }
    }

    static void promise20CountOfANewObject() {
        dueCounts(new TuneWords(), 0, 0, 0, 0, 0);
    }

    static void promise20CountOfAllFull() {
        TuneWords x = new TuneWords();
        for (int line = 0; line <= 2; line++) {
            Edges.setLine(x, line, Edges.NINE_LONG);
            due("syllables", x.count(0), 9 * (line + 1));
        }
        for (int tune = 0; tune <= 3; tune++) {
            Edges.setTune(x, tune, "24".repeat(11));
            due("notes", x.count(1), 11 * (tune + 1));
            due("lengths", x.count(3), 44 * (tune + 1));
        }
        Edges.setRules(x, 9, 9, 9, 9);
        x.image(0);
        x.image(1);
        Edges.sayAll(x, "~".repeat(23));
        dueCounts(x, 27, 44, 22, 176, 3);
        for (int what = 10; what <= 13; what++) {
            due("count " + what, x.count(what), 9);
        }
    }

    static void promise20CountOfEachImage() {
        for (int k = 0; k <= 1; k++) {
            TuneWords x = new TuneWords();
            x.image(k);
            due("one", x.count(4), k + 1);
            x.image(k);
            due("kept again", x.count(4), k + 1);
            x.image(1 - k);
            due("both", x.count(4), 3);
        }
    }

    static void promise20CountOfEachRule() {
        for (int what = 0; what <= 3; what++) {
            for (int v : new int[] {0, 9}) {
                TuneWords x = new TuneWords();
                x.rule(what, v);
                int[] rules = {3, 2, 4, 2};
                rules[what] = v;
                for (int other = 0; other <= 3; other++) {
                    due("count " + (10 + other), x.count(10 + other), rules[other]);
                }
            }
        }
    }

    static void promise20CountFollowsWhatIsTakenAway() {
        TuneWords x = new TuneWords();
        Edges.leadToAllFull(x);
        due("signs", x.count(2), 22);
        x.wipe();
        due("no signs", x.count(2), 0);
        x.line(0);
        due("two lines", x.count(0), 18);
        x.line(1);
        x.line(2);
        due("no syllables", x.count(0), 0);
        due("lengths", x.count(3), 11 + 22 + 26 + 44);
        x.tune(3);
        due("three tunes", x.count(1), 33);
        due("their lengths", x.count(3), 11 + 22 + 26);
        x.tune(0);
        x.tune(1);
        x.tune(2);
        dueCounts(x, 0, 0, 0, 0, 3);
    }

    static void promise20CountChangesNothing() {
        for (int what = 0; what <= 13; what++) {
            int asked = what;
            EDGES.changesNothing("count " + what, x -> x.count(asked));
        }
    }
}
