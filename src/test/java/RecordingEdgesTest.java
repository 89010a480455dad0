/** The boundary cases that the document names for frames, marks and settings, sentence by sentence. */
public final class RecordingEdgesTest {
    private static final int BAD = SpeechCleaner.BAD;
    private static final int STATE = SpeechCleaner.STATE;
    private static final int FULL = SpeechCleaner.FULL;
    private static final int MIN = Integer.MIN_VALUE;
    private static final int MAX = Integer.MAX_VALUE;
    private static final int[] GREATEST = {100, 9, 20, 50, 100, 50, 50};
    private static final int[] INITIAL = {30, 1, 5, 4, 50, 6, 2};

    public static void main(String[] args) {
        newObject();
        mostCalls();
        mostFrames();
        numberedFrames();
        levelsOfFrames();
        appendArguments();
        babbleArguments();
        babbleWraps();
        mostMarks();
        markKinds();
        markFrames();
        markDoubts();
        markOverlaps();
        markErrorsInOrder();
        markNumbers();
        unmarkEdges();
        holdEdges();
        setEdges();
        settingEdges();
        aboutEdges();
        Due.end("RecordingEdgesTest");
    }

    private static SpeechCleaner ofFrames(int level, int many) {
        SpeechCleaner x = new SpeechCleaner();
        x.append(level, many);
        return x;
    }

    /** An object with 20 marks of one frame each, with a frame between them, and 40 frames. */
    private static SpeechCleaner ofTwentyMarks() {
        SpeechCleaner x = ofFrames(5, 40);
        for (int i = 0; i < 20; i++) {
            Due.due("mark " + i, x.mark(3, 2 * i, 2 * i + 1, i), i);
        }
        return x;
    }

    private static void newObject() {
        Due.says("Creates an empty recording.");
        SpeechCleaner other = Due.of("[f0:9]9[b:9]", 0, 99, 1, 9);
        other.type('5');
        SpeechCleaner x = new SpeechCleaner();
        Due.due("frames", x.setting(7), 0);
        Due.due("marks", x.setting(8), 0);
        Due.due("level(0)", x.level(0), BAD);
        Due.due("cuts()", x.cuts(), 0);
        Due.due("length()", x.length(), 0);
        Due.due("the buffer of another object", x.clear(), 0);
        Due.due("the history of another object", x.undo(), SpeechCleaner.NONE);
        Due.says("SETTINGS with their ranges and initial values");
        for (int i = 0; i < INITIAL.length; i++) {
            Due.due("setting(" + i + ")", x.setting(i), INITIAL[i]);
        }
    }

    private static void mostCalls() {
        Due.says("An object is used for at most 512 calls after it has been made");
        SpeechCleaner x = new SpeechCleaner();
        for (int call = 1; call <= 510; call++) {
            Due.due("call " + call, x.set(4, call % 101), call == 1 ? 50 : (call - 1) % 101);
        }
        Due.due("call 511", x.setting(4), 5);
        Due.due("call 512", x.undo(), 3);
    }

    private static void mostFrames() {
        Due.says("A recording is a row of at most 200 frames");
        SpeechCleaner x = ofFrames(3, 199);
        Due.due("append(3, 2) to 199", x.append(3, 2), FULL);
        Due.due("babble(3, 2) to 199", x.babble(3, 2), FULL);
        Due.due("append(3, 1) to 199", x.append(3, 1), 200);
        Due.due("append(3, 1) to 200", x.append(3, 1), FULL);
        Due.due("babble(3, 1) to 200", x.babble(3, 1), FULL);
        Due.due("frames", x.setting(7), 200);
        Due.due("the result has them all", x.length(), 200);
        x = ofFrames(3, 199);
        Due.due("babble(3, 1) to 199", x.babble(3, 1), 200);
        x = new SpeechCleaner();
        Due.due("babble(3, 200) to 0", x.babble(3, 200), 200);
        x = ofFrames(3, 1);
        Due.due("append(3, 200) to 1", x.append(3, 200), FULL);
        Due.due("frames after FULL", x.setting(7), 1);
        Due.says("FULL if there would be more than 200.");
        x = ofFrames(3, 200);
        x.undo();
        Due.due("append(4, 200) when they are gone again", x.append(4, 200), 200);
    }

    private static void numberedFrames() {
        Due.says("level: BAD if there is no such frame.");
        SpeechCleaner x = new SpeechCleaner();
        Due.due("level(0) without frames", x.level(0), BAD);
        x.append(6, 1);
        Due.due("level(0) of one", x.level(0), 6);
        Due.due("level(1) of one", x.level(1), BAD);
        x.append(7, 199);
        Due.due("level(199) of 200", x.level(199), 7);
        Due.due("level(200) of 200", x.level(200), BAD);
        Due.due("level(-1)", x.level(-1), BAD);
        Due.due("level(min)", x.level(MIN), BAD);
        Due.due("level(max)", x.level(MAX), BAD);
        x.undo();
        Due.due("level(1) after undo()", x.level(1), BAD);
    }

    private static void levelsOfFrames() {
        Due.says("each with a level from 0 to 9");
        SpeechCleaner x = new SpeechCleaner();
        for (int level = 0; level <= 9; level++) {
            Due.due("append(" + level + ", 1)", x.append(level, 1), level + 1);
            Due.due("level(" + level + ")", x.level(level), level);
        }
        x = Due.of("0123456789");
        for (int level = 0; level <= 9; level++) {
            Due.due("read level(" + level + ")", x.level(level), level);
        }
    }

    private static void appendArguments() {
        Due.says("append: level 0 to 9, many 1 to 200; BAD if an argument is not in its range");
        SpeechCleaner x = new SpeechCleaner();
        Due.due("append(-1, 1)", x.append(-1, 1), BAD);
        Due.due("append(10, 1)", x.append(10, 1), BAD);
        Due.due("append(min, 1)", x.append(MIN, 1), BAD);
        Due.due("append(max, 1)", x.append(MAX, 1), BAD);
        Due.due("append(5, 0)", x.append(5, 0), BAD);
        Due.due("append(5, -1)", x.append(5, -1), BAD);
        Due.due("append(5, 201)", x.append(5, 201), BAD);
        Due.due("append(5, min)", x.append(5, MIN), BAD);
        Due.due("append(5, max)", x.append(5, MAX), BAD);
        Due.due("frames", x.setting(7), 0);
        Due.due("append(0, 1)", x.append(0, 1), 1);
        Due.due("append(9, 199)", x.append(9, 199), 200);
        Due.says("append: BAD is listed before FULL");
        Due.due("append(10, 1) when full", x.append(10, 1), BAD);
        Due.due("append(-1, 200) when full", x.append(-1, 200), BAD);
        Due.due("append(5, 201) when full", x.append(5, 201), BAD);
        Due.due("append(5, 0) when full", x.append(5, 0), BAD);
        Due.due("append(5, max) when full", x.append(5, MAX), BAD);
        Due.due("append(5, 1) when full", x.append(5, 1), FULL);
    }

    private static void babbleArguments() {
        Due.says("babble: many 1 to 200; BAD if many is not in its range");
        SpeechCleaner x = new SpeechCleaner();
        Due.due("babble(7, 0)", x.babble(7, 0), BAD);
        Due.due("babble(7, -1)", x.babble(7, -1), BAD);
        Due.due("babble(7, 201)", x.babble(7, 201), BAD);
        Due.due("babble(7, min)", x.babble(7, MIN), BAD);
        Due.due("babble(7, max)", x.babble(7, MAX), BAD);
        Due.due("frames", x.setting(7), 0);
        Due.due("babble(7, 1)", x.babble(7, 1), 1);
        Due.due("babble(7, 199)", x.babble(7, 199), 200);
        Due.says("babble: BAD is listed before FULL");
        Due.due("babble(7, 201) when full", x.babble(7, 201), BAD);
        Due.due("babble(7, 0) when full", x.babble(7, 0), BAD);
        Due.due("babble(7, 1) when full", x.babble(7, 1), FULL);
    }

    private static void babbleWraps() {
        Due.says("x becomes 1103515245 * x + 12345 as an int with overflow, upper 16 bits as a number from 0 on");
        int[] seeds = {0, 1, -1, MIN, MAX, MIN + 1, 65536, -65536, 0x7FFF0000, 0xABCD1234};
        boolean above = false;
        for (int seed : seeds) {
            SpeechCleaner x = new SpeechCleaner();
            Due.due("babble(" + seed + ", 200)", x.babble(seed, 200), 200);
            long state = seed & 0xFFFFFFFFL;
            for (int i = 0; i < 200; i++) {
                state = (state * 1103515245L + 12345L) % 4294967296L;
                state = state < 0 ? state + 4294967296L : state;
                above |= state >= 2147483648L;
                Due.due("babble(" + seed + "): level(" + i + ")", x.level(i), state / 65536L % 10L);
            }
        }
        Due.due("some upper bits had the sign", above ? 1 : 0, 1);
        Due.says("x = seed at first: each call begins with its own seed");
        SpeechCleaner x = new SpeechCleaner();
        x.babble(99, 3);
        x.babble(99, 3);
        for (int i = 0; i < 3; i++) {
            Due.due("level(" + (i + 3) + ")", x.level(i + 3), x.level(i));
        }
    }

    private static void mostMarks() {
        Due.says("There are at most 20 marks");
        SpeechCleaner x = ofTwentyMarks();
        Due.due("marks", x.setting(8), 20);
        Due.due("the last one", x.about(19, 1), 38);
        Due.due("mark(0, 39, 40, 0)", x.mark(0, 39, 40, 0), FULL);
        Due.due("mark(0, 1, 2, 0)", x.mark(0, 1, 2, 0), FULL);
        Due.due("marks after FULL", x.setting(8), 20);
        Due.due("unmark(19)", x.unmark(19), 19);
        Due.due("the twentieth again", x.mark(0, 39, 40, 0), 19);
        Due.due("marks", x.setting(8), 20);
        Due.due("unmark(0)", x.unmark(0), 19);
        Due.due("the twentieth at the beginning", x.mark(0, 0, 1, 0), 0);
        Due.due("the last one", x.about(19, 1), 39);
    }

    private static void markKinds() {
        Due.says("mark: kind 0 to 3");
        SpeechCleaner x = ofFrames(5, 10);
        Due.due("mark(-1, ..)", x.mark(-1, 0, 1, 0), BAD);
        Due.due("mark(4, ..)", x.mark(4, 0, 1, 0), BAD);
        Due.due("mark(min, ..)", x.mark(MIN, 0, 1, 0), BAD);
        Due.due("mark(max, ..)", x.mark(MAX, 0, 1, 0), BAD);
        for (int kind = 0; kind <= 3; kind++) {
            Due.due("mark(" + kind + ", ..)", x.mark(kind, kind, kind + 1, 0), kind);
            Due.due("its kind", x.about(kind, 0), kind);
        }
    }

    private static void markFrames() {
        Due.says("mark: from its first frame; to at most the number of frames; BAD if to is not greater than from");
        SpeechCleaner x = new SpeechCleaner();
        Due.due("mark(0, 0, 0, 0) without frames", x.mark(0, 0, 0, 0), BAD);
        Due.due("mark(0, 0, 1, 0) without frames", x.mark(0, 0, 1, 0), BAD);
        x.append(5, 10);
        Due.due("from -1", x.mark(0, -1, 1, 0), BAD);
        Due.due("from min", x.mark(0, MIN, 1, 0), BAD);
        Due.due("from 10", x.mark(0, 10, 11, 0), BAD);
        Due.due("from 10 to 10", x.mark(0, 10, 10, 0), BAD);
        Due.due("from max", x.mark(0, MAX, MAX, 0), BAD);
        Due.due("from max to min", x.mark(0, MAX, MIN, 0), BAD);
        Due.due("to 11", x.mark(0, 9, 11, 0), BAD);
        Due.due("to max", x.mark(0, 0, MAX, 0), BAD);
        Due.due("to from", x.mark(0, 4, 4, 0), BAD);
        Due.due("to from - 1", x.mark(0, 4, 3, 0), BAD);
        Due.due("to 0", x.mark(0, 0, 0, 0), BAD);
        Due.due("no mark yet", x.setting(8), 0);
        Due.due("to from + 1", x.mark(0, 4, 5, 0), 0);
        Due.due("the last frame", x.mark(0, 9, 10, 0), 1);
        Due.due("the first frame", x.mark(0, 0, 1, 0), 0);
        x = ofFrames(5, 200);
        Due.due("all of 200 frames", x.mark(2, 0, 200, 0), 0);
        Due.due("its end", x.about(0, 2), 200);
    }

    private static void markDoubts() {
        Due.says("a doubt from 0 to 100");
        SpeechCleaner x = ofFrames(5, 10);
        Due.due("doubt -1", x.mark(0, 0, 1, -1), BAD);
        Due.due("doubt 101", x.mark(0, 0, 1, 101), BAD);
        Due.due("doubt min", x.mark(0, 0, 1, MIN), BAD);
        Due.due("doubt max", x.mark(0, 0, 1, MAX), BAD);
        Due.due("doubt 0", x.mark(0, 0, 1, 0), 0);
        Due.due("doubt 100", x.mark(0, 1, 2, 100), 1);
        Due.due("doubt 0", x.about(0, 3), 0);
        Due.due("doubt 100", x.about(1, 3), 100);
        for (int kind = 1; kind <= 3; kind++) {
            Due.due("other kinds have it too", x.mark(kind, kind + 1, kind + 2, 100), kind + 1);
            Due.due("its doubt", x.about(kind + 1, 3), 100);
            Due.due("not 101", x.mark(kind, 8, 9, 101), BAD);
        }
    }

    private static void markOverlaps() {
        Due.says("STATE if it would overlap another mark");
        SpeechCleaner x = ofFrames(5, 20);
        x.mark(1, 5, 10, 0);
        int[][] overlaps = {{5, 10}, {4, 6}, {9, 11}, {6, 9}, {5, 6}, {9, 10}, {0, 20}, {5, 11}, {4, 10}};
        for (int[] o : overlaps) {
            Due.due("mark(0, " + o[0] + ", " + o[1] + ", 0)", x.mark(0, o[0], o[1], 0), STATE);
        }
        Due.due("one mark", x.setting(8), 1);
        Due.due("up to its first frame", x.mark(0, 0, 5, 0), 0);
        Due.due("from the frame behind it", x.mark(0, 10, 20, 0), 2);
        Due.due("around the last of three", x.mark(0, 19, 20, 0), STATE);
        x.unmark(1);
        Due.due("between two", x.mark(3, 5, 10, 0), 1);
        x.hold(1, true);
        Due.due("a held one", x.mark(3, 7, 8, 0), STATE);
    }

    private static void markErrorsInOrder() {
        Due.says("If several errors apply to a call, the one listed first is returned. (mark)");
        SpeechCleaner x = ofTwentyMarks();
        Due.due("BAD kind, STATE, FULL", x.mark(4, 0, 1, 0), BAD);
        Due.due("BAD doubt, STATE, FULL", x.mark(0, 0, 1, 101), BAD);
        Due.due("BAD to, STATE, FULL", x.mark(0, 0, 41, 0), BAD);
        Due.due("BAD from, STATE, FULL", x.mark(0, -1, 1, 0), BAD);
        Due.due("BAD order, STATE, FULL", x.mark(0, 1, 0, 0), BAD);
        Due.due("BAD kind, FULL", x.mark(4, 1, 2, 0), BAD);
        Due.due("STATE, FULL", x.mark(0, 0, 1, 0), STATE);
        Due.due("STATE with the last mark, FULL", x.mark(0, 38, 40, 0), STATE);
        Due.due("FULL alone", x.mark(0, 1, 2, 0), FULL);
    }

    private static void markNumbers() {
        Due.says("they are numbered from 0 by their first frames (so the numbers change when marks come and go)");
        SpeechCleaner x = ofFrames(5, 200);
        Due.due("the only one", x.mark(0, 100, 101, 1), 0);
        x.hold(0, true);
        Due.due("before it", x.mark(1, 50, 60, 2), 0);
        Due.due("behind it", x.mark(2, 150, 151, 3), 2);
        Due.due("between", x.mark(3, 99, 100, 4), 1);
        int[][] want = {{1, 50, 60, 2, 0}, {3, 99, 100, 4, 0}, {0, 100, 101, 1, 1}, {2, 150, 151, 3, 0}};
        for (int i = 0; i < want.length; i++) {
            for (int what = 0; what < 5; what++) {
                Due.due("about(" + i + ", " + what + ")", x.about(i, what), want[i][what]);
            }
        }
        Due.due("unmark(0)", x.unmark(0), 3);
        Due.due("the held one is 1 now", x.about(1, 4), 1);
        Due.due("and 2 is behind it", x.about(2, 1), 150);
        Due.due("3 is gone", x.about(3, 1), BAD);
        Due.says("Adds a mark, which is not held.");
        Due.due("unmark(1)", x.unmark(1), 2);
        Due.due("where a held one was", x.mark(0, 100, 101, 1), 1);
        Due.due("it is not held", x.about(1, 4), 0);
    }

    private static void unmarkEdges() {
        Due.says("unmark: BAD if there is no such mark.");
        SpeechCleaner x = new SpeechCleaner();
        Due.due("unmark(0) without marks", x.unmark(0), BAD);
        x = Due.of("[f1:1][b:2]");
        Due.due("unmark(-1)", x.unmark(-1), BAD);
        Due.due("unmark(2) of 2", x.unmark(2), BAD);
        Due.due("unmark(min)", x.unmark(MIN), BAD);
        Due.due("unmark(max)", x.unmark(MAX), BAD);
        Due.says("unmark: Returns the number of marks then");
        Due.due("the last one", x.unmark(1), 1);
        Due.due("the first one stays", x.about(0, 0), 0);
        Due.due("unmark(1) of 1", x.unmark(1), BAD);
        Due.due("the only one", x.unmark(0), 0);
        Due.due("unmark(0) of none", x.unmark(0), BAD);
        Due.due("the frames stay", x.setting(7), 2);
        x = ofTwentyMarks();
        Due.due("unmark(20) of 20", x.unmark(20), BAD);
        Due.due("unmark(19) of 20", x.unmark(19), 19);
        Due.due("unmark(0) of 19", x.unmark(0), 18);
        for (int i = 0; i < 18; i++) {
            Due.due("moved up", x.about(i, 1), 2 * i + 2);
            Due.due("with its doubt", x.about(i, 3), i + 1);
        }
    }

    private static void holdEdges() {
        Due.says("hold: BAD if there is no such mark.");
        SpeechCleaner x = new SpeechCleaner();
        Due.due("hold(0, true) without marks", x.hold(0, true), BAD);
        x = ofTwentyMarks();
        for (int mark : new int[] {-1, 20, MIN, MAX}) {
            Due.due("hold(" + mark + ", true)", x.hold(mark, true), BAD);
            Due.due("hold(" + mark + ", false)", x.hold(mark, false), BAD);
        }
        Due.says("hold: Returns 1 if it was held, otherwise 0");
        for (int mark : new int[] {0, 19}) {
            Due.due("not held, off", x.hold(mark, false), 0);
            Due.due("not held, on", x.hold(mark, true), 0);
            Due.due("held, on", x.hold(mark, true), 1);
            Due.due("it is held", x.about(mark, 4), 1);
            Due.due("held, off", x.hold(mark, false), 1);
            Due.due("it is not held", x.about(mark, 4), 0);
        }
        Due.due("the others are not held", x.about(1, 4) + x.about(18, 4), 0);
    }

    private static void setEdges() {
        for (int i = 0; i < GREATEST.length; i++) {
            Due.says("set: BAD if an argument is not in its range (setting " + i + ": 0 to " + GREATEST[i] + ")");
            SpeechCleaner x = new SpeechCleaner();
            for (int value : new int[] {-1, GREATEST[i] + 1, MIN, MAX}) {
                Due.due("set(" + i + ", " + value + ")", x.set(i, value), BAD);
                Due.due("it stays", x.setting(i), INITIAL[i]);
            }
            Due.says("set: Returns the previous value");
            Due.due("set(" + i + ", 0)", x.set(i, 0), INITIAL[i]);
            Due.due("set(" + i + ", 0) again", x.set(i, 0), 0);
            Due.due("set(" + i + ", greatest)", x.set(i, GREATEST[i]), 0);
            Due.due("setting(" + i + ")", x.setting(i), GREATEST[i]);
            for (int other = 0; other < GREATEST.length; other++) {
                if (other != i) {
                    Due.due("another setting", x.setting(other), INITIAL[other]);
                }
            }
        }
        Due.says("set: setting 0 to 6");
        SpeechCleaner x = new SpeechCleaner();
        for (int setting : new int[] {-1, 7, 8, MIN, MAX}) {
            Due.due("set(" + setting + ", 0)", x.set(setting, 0), BAD);
        }
    }

    private static void settingEdges() {
        Due.says("setting: what 0 to 6 a setting, 7 the number of frames, 8 the number of marks");
        SpeechCleaner x = new SpeechCleaner();
        for (int what : new int[] {-1, 9, MIN, MAX}) {
            Due.due("setting(" + what + ")", x.setting(what), BAD);
        }
        Due.due("setting(7) of nothing", x.setting(7), 0);
        Due.due("setting(8) of nothing", x.setting(8), 0);
        x = ofTwentyMarks();
        x.append(1, 160);
        Due.due("setting(7) when full", x.setting(7), 200);
        Due.due("setting(8) when full", x.setting(8), 20);
    }

    private static void aboutEdges() {
        Due.says("about: BAD if there is no such mark, or what is not in its range.");
        SpeechCleaner x = new SpeechCleaner();
        for (int what = 0; what <= 5; what++) {
            Due.due("about(0, " + what + ") without marks", x.about(0, what), BAD);
        }
        x = ofTwentyMarks();
        for (int what = 0; what <= 5; what++) {
            for (int mark : new int[] {-1, 20, MIN, MAX}) {
                Due.due("about(" + mark + ", " + what + ")", x.about(mark, what), BAD);
            }
        }
        for (int what : new int[] {-1, 6, MIN, MAX}) {
            Due.due("about(0, " + what + ")", x.about(0, what), BAD);
            Due.due("about(20, " + what + ")", x.about(20, what), BAD);
        }
        Due.says("about: 5 the number of its cut (NONE if it has none)");
        Due.due("about(19, 5) of a noise", x.about(19, 5), SpeechCleaner.NONE);
        x = Due.of("[r:5][f30:5][f31:5][n:5][b:55][b:5]");
        int none = SpeechCleaner.NONE;
        int[] want = {none, 0, none, none, none, 1};
        for (int i = 0; i < want.length; i++) {
            Due.due("about(" + i + ", 5)", x.about(i, 5), want[i]);
        }
        x.hold(1, true);
        Due.due("about(1, 5) of a held one", x.about(1, 5), none);
        Due.due("about(5, 5) is the first cut then", x.about(5, 5), 0);
    }
}
