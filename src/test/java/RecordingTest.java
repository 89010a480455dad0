/** Promises 1 to 13: texts, frames, marks and settings. */
public final class RecordingTest {
    public static void main(String[] args) {
        newObject();
        typing();
        texts();
        textErrors();
        fullTexts();
        appending();
        babbling();
        marking();
        unmarking();
        holding();
        settings();
        about();
        Due.end("RecordingTest");
    }

    private static void newObject() {
        SpeechCleaner x = new SpeechCleaner();
        int[] want = {30, 1, 5, 4, 50, 6, 2, 0, 0};
        for (int what = 0; what < want.length; what++) {
            Due.due("new: setting(" + what + ")", x.setting(what), want[what]);
        }
        Due.due("new: clear()", x.clear(), 0);
        Due.due("new: cuts()", x.cuts(), 0);
        Due.due("new: length()", x.length(), 0);
        Due.due("new: undo()", x.undo(), SpeechCleaner.NONE);
    }

    private static void typing() {
        SpeechCleaner x = new SpeechCleaner();
        Due.due("type(32)", x.type(32), 1);
        Due.due("type(126)", x.type(126), 2);
        Due.due("type(31)", x.type(31), SpeechCleaner.BAD);
        Due.due("type(127)", x.type(127), SpeechCleaner.BAD);
        Due.due("type(-1)", x.type(-1), SpeechCleaner.BAD);
        Due.due("type(53 + 65536)", x.type(53 + 65536), SpeechCleaner.BAD);
        for (int i = 3; i <= 120; i++) {
            Due.due("type(50)", x.type(50), i);
        }
        Due.due("type(50) when full", x.type(50), SpeechCleaner.FULL);
        Due.due("type(31) when full", x.type(31), SpeechCleaner.BAD);
        Due.due("typing is no act", x.undo(), SpeechCleaner.NONE);
        Due.due("clear()", x.clear(), 120);
        Due.due("clear() again", x.clear(), 0);
        Due.due("clearing is no act", x.undo(), SpeechCleaner.NONE);
        Due.due("type(50) after clear()", x.type(50), 1);
    }

    private static void texts() {
        SpeechCleaner x = Due.of("05[f030:12]9[b:3][r:44][n:567]");
        Due.due("frames", x.setting(7), 11);
        Due.due("marks", x.setting(8), 4);
        int[] levels = {0, 5, 1, 2, 9, 3, 4, 4, 5, 6, 7};
        for (int i = 0; i < levels.length; i++) {
            Due.due("level(" + i + ")", x.level(i), levels[i]);
        }
        int[][] marks = {{0, 2, 4, 30, 0}, {1, 5, 6, 0, 0}, {2, 6, 8, 0, 0}, {3, 8, 11, 0, 0}};
        for (int i = 0; i < marks.length; i++) {
            dueMark("text", x, i, marks[i]);
        }
        Due.due("the buffer is empty behind read()", x.clear(), 0);

        x.set(0, 77);
        x.hold(0, true);
        Due.type(x, "[f100:9]");
        Due.due("read() in place of the present frames", x.read(), 1);
        Due.due("settings stay", x.setting(0), 77);
        Due.due("marks of the new text", x.setting(8), 1);
        dueMark("new text", x, 0, 0, 0, 1, 100, 0);
        Due.due("read() of an empty text", x.read(), 0);
        Due.due("no frames then", x.setting(7), 0);
        Due.due("no marks then", x.setting(8), 0);
        Due.due("read() is an act", x.undo(), 3);
        Due.due("frames are back", x.setting(7), 1);
    }

    private static void textErrors() {
        dueError("x", 0);
        dueError(" ", 0);
        dueError("12]", 2);
        dueError("[", 1);
        dueError("[1", 1);
        dueError("[F", 1);
        dueError("[f", 2);
        dueError("[f:1]", 2);
        dueError("[f1", 3);
        dueError("[f1]", 3);
        dueError("[f1234:1]", 5);
        dueError("[f123", 5);
        dueError("[b", 2);
        dueError("[b0:1]", 2);
        dueError("[r]", 2);
        dueError("[n:", 3);
        dueError("[n:]", 3);
        dueError("[n:1[", 4);
        dueError("[n:1", 4);
        dueError("[n:1:", 4);
        dueError("[f101:1]", 2);
        dueError("[f100:1]0[f999:1][f101:2]", 11);
        dueError("[f101:1]x", 8);
        dueError("[f101:1", 7);
        dueError("/", 0);
        dueError(":", 0);
    }

    private static void dueError(String text, int place) {
        SpeechCleaner x = Due.of("1[b:23]");
        x.undo();
        x.append(5, 3);
        x.mark(3, 1, 2, 40);
        long before = x.fingerprint();
        Due.type(x, text);
        Due.due("read() of " + text, x.read(), -100 - place);
        Due.due("after an error: fingerprint()", x.fingerprint(), before);
        Due.due("after an error: the buffer stays", x.clear(), text.length());
        Due.due("after an error: the history stays", x.undo(), 1);
    }

    private static void fullTexts() {
        String twenty = "[b:1]".repeat(20);
        SpeechCleaner x = Due.of(twenty + "12345678901234567890");
        Due.due("frames of a full text", x.setting(7), 40);
        Due.due("marks of a full text", x.setting(8), 20);
        dueError(twenty + "[", 100);
        dueError(twenty + "7[b:1]", 101);
        x = Due.of("7".repeat(120));
        Due.due("120 frames", x.setting(7), 120);
        x = Due.of(twenty);
        Due.type(x, twenty);
        Due.due("read() replaces 20 marks by 20", x.read(), 20);
    }

    private static void appending() {
        SpeechCleaner x = new SpeechCleaner();
        Due.due("append(9, 1)", x.append(9, 1), 1);
        Due.due("append(0, 2)", x.append(0, 2), 3);
        Due.due("level(0)", x.level(0), 9);
        Due.due("level(2)", x.level(2), 0);
        Due.due("append(-1, 1)", x.append(-1, 1), SpeechCleaner.BAD);
        Due.due("append(10, 1)", x.append(10, 1), SpeechCleaner.BAD);
        Due.due("append(1, 0)", x.append(1, 0), SpeechCleaner.BAD);
        Due.due("append(1, 201)", x.append(1, 201), SpeechCleaner.BAD);
        Due.due("append(1, max)", x.append(1, Integer.MAX_VALUE), SpeechCleaner.BAD);
        Due.due("append(1, 198)", x.append(1, 198), SpeechCleaner.FULL);
        Due.due("append(10, 198)", x.append(10, 198), SpeechCleaner.BAD);
        Due.due("append(1, 197)", x.append(1, 197), 200);
        Due.due("append(1, 1)", x.append(1, 1), SpeechCleaner.FULL);
        Due.due("three acts", x.undo(), 2);
        Due.due("frames after undo()", x.setting(7), 3);
        x = new SpeechCleaner();
        Due.due("append(4, 200)", x.append(4, 200), 200);
        Due.due("level(-1)", x.level(-1), SpeechCleaner.BAD);
        Due.due("level(199)", x.level(199), 4);
        Due.due("level(200)", x.level(200), SpeechCleaner.BAD);
    }

    private static void babbling() {
        int[] seeds = {0, 7, -1, Integer.MIN_VALUE, Integer.MAX_VALUE, 123456789};
        for (int seed : seeds) {
            SpeechCleaner x = new SpeechCleaner();
            Due.due("babble(" + seed + ", 60)", x.babble(seed, 60), 60);
            long state = seed & 0xFFFFFFFFL;
            for (int i = 0; i < 60; i++) {
                state = (1103515245L * state + 12345L) & 0xFFFFFFFFL;
                Due.due("babble(" + seed + "): level(" + i + ")", x.level(i), state / 65536 % 10);
            }
        }
        SpeechCleaner x = new SpeechCleaner();
        Due.due("babble(1, 0)", x.babble(1, 0), SpeechCleaner.BAD);
        Due.due("babble(1, 201)", x.babble(1, 201), SpeechCleaner.BAD);
        Due.due("babble(1, -5)", x.babble(1, -5), SpeechCleaner.BAD);
        x.append(1, 1);
        Due.due("babble(1, 200)", x.babble(1, 200), SpeechCleaner.FULL);
        Due.due("babble(1, 199)", x.babble(1, 199), 200);
        Due.due("babble() is an act", x.undo(), 1);
    }

    private static void marking() {
        SpeechCleaner x = new SpeechCleaner();
        x.append(5, 60);
        Due.due("mark(0, 10, 20, 100)", x.mark(0, 10, 20, 100), 0);
        dueMark("first", x, 0, 0, 10, 20, 100, 0);
        Due.due("mark(4, ..)", x.mark(4, 1, 2, 0), SpeechCleaner.BAD);
        Due.due("mark(-1, ..)", x.mark(-1, 1, 2, 0), SpeechCleaner.BAD);
        Due.due("mark(0, -1, ..)", x.mark(0, -1, 2, 0), SpeechCleaner.BAD);
        Due.due("mark(0, 59, 61, 0)", x.mark(0, 59, 61, 0), SpeechCleaner.BAD);
        Due.due("mark(0, 5, 5, 0)", x.mark(0, 5, 5, 0), SpeechCleaner.BAD);
        Due.due("mark(0, 5, 4, 0)", x.mark(0, 5, 4, 0), SpeechCleaner.BAD);
        Due.due("doubt -1", x.mark(0, 1, 2, -1), SpeechCleaner.BAD);
        Due.due("doubt 101", x.mark(0, 1, 2, 101), SpeechCleaner.BAD);
        Due.due("BAD before STATE", x.mark(0, 12, 13, 101), SpeechCleaner.BAD);
        Due.due("overlap at the beginning", x.mark(1, 9, 11, 0), SpeechCleaner.STATE);
        Due.due("overlap at the end", x.mark(1, 19, 21, 0), SpeechCleaner.STATE);
        Due.due("overlap inside", x.mark(1, 12, 13, 0), SpeechCleaner.STATE);
        Due.due("overlap around", x.mark(1, 9, 21, 0), SpeechCleaner.STATE);
        Due.due("next behind", x.mark(1, 20, 21, 7), 1);
        Due.due("next before", x.mark(2, 9, 10, 8), 0);
        dueMark("before", x, 0, 2, 9, 10, 8, 0);
        dueMark("middle", x, 1, 0, 10, 20, 100, 0);
        dueMark("behind", x, 2, 1, 20, 21, 7, 0);
        Due.due("at the end of the frames", x.mark(3, 59, 60, 0), 3);
        for (int i = 0; i < 16; i++) {
            Due.due("more marks", x.mark(0, 22 + 2 * i, 23 + 2 * i, 0), 3 + i);
        }
        Due.due("20 marks", x.setting(8), 20);
        Due.due("mark 21", x.mark(0, 0, 1, 0), SpeechCleaner.FULL);
        Due.due("STATE before FULL", x.mark(0, 9, 10, 0), SpeechCleaner.STATE);
        Due.due("BAD before FULL", x.mark(0, 0, 0, 0), SpeechCleaner.BAD);
        Due.due("mark() is an act", x.undo(), 3);
        Due.due("19 marks", x.setting(8), 19);
    }

    private static void unmarking() {
        SpeechCleaner x = Due.of("[f1:1][b:22][n:3]");
        Due.due("unmark(3)", x.unmark(3), SpeechCleaner.BAD);
        Due.due("unmark(-1)", x.unmark(-1), SpeechCleaner.BAD);
        x.hold(2, true);
        Due.due("unmark(1)", x.unmark(1), 2);
        dueMark("stays", x, 0, 0, 0, 1, 1, 0);
        dueMark("moves up", x, 1, 3, 3, 4, 0, 1);
        Due.due("frames stay", x.setting(7), 4);
        Due.due("unmark(1)", x.unmark(1), 1);
        Due.due("unmark(0)", x.unmark(0), 0);
        Due.due("unmark(0) of none", x.unmark(0), SpeechCleaner.BAD);
        x.undo();
        Due.due("unmark() is an act", x.setting(8), 1);
    }

    private static void holding() {
        SpeechCleaner x = Due.of("[f1:1][b:2]");
        Due.due("cuts", x.cuts(), 2);
        Due.due("hold(2, true)", x.hold(2, true), SpeechCleaner.BAD);
        Due.due("hold(-1, true)", x.hold(-1, true), SpeechCleaner.BAD);
        Due.due("hold(1, true)", x.hold(1, true), 0);
        Due.due("hold(1, true) again", x.hold(1, true), 1);
        Due.due("about(1, 4)", x.about(1, 4), 1);
        Due.due("about(0, 4)", x.about(0, 4), 0);
        Due.due("a held mark has no cut", x.about(1, 5), SpeechCleaner.NONE);
        Due.due("hold(1, false)", x.hold(1, false), 1);
        Due.due("hold(1, false) again", x.hold(1, false), 0);
        Due.due("its cut is back", x.about(1, 5), 1);
        Due.due("hold() is an act", x.undo(), 3);
        x.undo();
        Due.due("undo() brings back the hold", x.about(1, 4), 1);
        x.unmark(1);
        x.mark(1, 1, 2, 0);
        Due.due("a new mark is not held", x.about(1, 4), 0);
    }

    private static void settings() {
        SpeechCleaner x = new SpeechCleaner();
        int[] greatest = {100, 9, 20, 50, 100, 50, 50};
        int[] before = {30, 1, 5, 4, 50, 6, 2};
        for (int i = 0; i < greatest.length; i++) {
            Due.due("set(" + i + ", -1)", x.set(i, -1), SpeechCleaner.BAD);
            Due.due("set(" + i + ", too much)", x.set(i, greatest[i] + 1), SpeechCleaner.BAD);
            Due.due("set(" + i + ", greatest)", x.set(i, greatest[i]), before[i]);
            Due.due("setting(" + i + ")", x.setting(i), greatest[i]);
            Due.due("set(" + i + ", 0)", x.set(i, 0), greatest[i]);
            Due.due("setting(" + i + ")", x.setting(i), 0);
        }
        Due.due("set(-1, 0)", x.set(-1, 0), SpeechCleaner.BAD);
        Due.due("set(7, 0)", x.set(7, 0), SpeechCleaner.BAD);
        Due.due("setting(-1)", x.setting(-1), SpeechCleaner.BAD);
        Due.due("setting(9)", x.setting(9), SpeechCleaner.BAD);
        Due.due("set() is an act", x.undo(), 3);
        Due.due("the setting is back", x.setting(6), 50);
        x.append(1, 3);
        x.mark(0, 0, 1, 0);
        Due.due("setting(7)", x.setting(7), 3);
        Due.due("setting(8)", x.setting(8), 1);
    }

    private static void about() {
        SpeechCleaner x = Due.of("[r:5][f31:5][f30:5][n:5][b:5]");
        int[] cuts = {SpeechCleaner.NONE, SpeechCleaner.NONE, 0, SpeechCleaner.NONE, 1};
        for (int i = 0; i < cuts.length; i++) {
            Due.due("about(" + i + ", 5)", x.about(i, 5), cuts[i]);
        }
        Due.due("about(0, -1)", x.about(0, -1), SpeechCleaner.BAD);
        Due.due("about(0, 6)", x.about(0, 6), SpeechCleaner.BAD);
        Due.due("about(5, 0)", x.about(5, 0), SpeechCleaner.BAD);
        Due.due("about(5, 5)", x.about(5, 5), SpeechCleaner.BAD);
        Due.due("about(-1, 5)", x.about(-1, 5), SpeechCleaner.BAD);
    }

    private static void dueMark(String when, SpeechCleaner x, int mark, int... want) {
        for (int what = 0; what < want.length; what++) {
            Due.due(when + ": about(" + mark + ", " + what + ")", x.about(mark, what), want[what]);
        }
    }
}
