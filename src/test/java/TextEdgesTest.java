/** The boundary cases that the document names for the buffer and its texts, sentence by sentence. */
public final class TextEdgesTest {
    private static final int BAD = SpeechCleaner.BAD;
    private static final int FULL = SpeechCleaner.FULL;
    private static final String TWENTY = "[b:1]".repeat(20);

    public static void main(String[] args) {
        codes();
        mostCharacters();
        clearing();
        emptyText();
        digits();
        kinds();
        doubtDigits();
        greatDoubts();
        framesOfMarks();
        outsideOfMarks();
        earlyEnds();
        mostMarks();
        longestTexts();
        errorsLeaveAll();
        readReplaces();
        Due.end("TextEdgesTest");
    }

    private static void dueError(String text, int place) {
        SpeechCleaner x = new SpeechCleaner();
        Due.type(x, text);
        Due.due("read() of " + text, x.read(), -100 - place);
    }

    private static void dueFrames(String text, int frames) {
        SpeechCleaner x = new SpeechCleaner();
        Due.type(x, text);
        Due.due("read() of " + text, x.read(), frames);
    }

    private static void codes() {
        Due.says("type: BAD if c is not in its range");
        SpeechCleaner x = new SpeechCleaner();
        for (int c : new int[] {31, 127, 0, -1, 128, 255, 10, 65536 + 53, Integer.MIN_VALUE, Integer.MAX_VALUE}) {
            Due.due("type(" + c + ")", x.type(c), BAD);
        }
        Due.due("nothing was appended", x.clear(), 0);
        Due.due("type(32)", x.type(32), 1);
        Due.due("type(126)", x.type(126), 2);
    }

    private static void mostCharacters() {
        Due.says("There is a buffer of at most 120 characters");
        SpeechCleaner x = new SpeechCleaner();
        for (int i = 1; i <= 120; i++) {
            Due.due("type(126)", x.type(126), i);
        }
        Due.due("type(126) when full", x.type(126), FULL);
        Due.due("type(32) when full", x.type(32), FULL);
        Due.says("type: BAD is listed before FULL");
        Due.due("type(127) when full", x.type(127), BAD);
        Due.due("type(31) when full", x.type(31), BAD);
        Due.due("still 120", x.clear(), 120);
        Due.due("room again", x.type(50), 1);
    }

    private static void clearing() {
        Due.says("Returns the number of characters that it had.");
        SpeechCleaner x = new SpeechCleaner();
        Due.due("clear() of an empty buffer", x.clear(), 0);
        x.type('1');
        Due.due("clear() of one", x.clear(), 1);
        Due.due("clear() again", x.clear(), 0);
        Due.type(x, "77");
        x.clear();
        Due.due("nothing is left to be read", x.read(), 0);
    }

    private static void emptyText() {
        Due.says("a row of digits and marks, perhaps an empty one");
        SpeechCleaner x = new SpeechCleaner();
        Due.due("read() of an initially empty buffer", x.read(), 0);
        Due.due("it is an act", x.undo(), 0);
        x = Due.of("12[b:3]");
        Due.due("read() of an empty text", x.read(), 0);
        Due.due("frames", x.setting(7), 0);
        Due.due("marks", x.setting(8), 0);
        Due.due("undo()", x.undo(), 1);
        Due.due("frames again", x.setting(7), 3);
    }

    private static void digits() {
        Due.says("the index of the first character that cannot stand at its place (digits are 0 to 9)");
        dueFrames("0", 1);
        dueFrames("9", 1);
        dueError("/", 0);
        dueError(":", 0);
        dueError("0/", 1);
        dueError("9:", 1);
        dueError("[n:/]", 3);
        dueError("[n:9/]", 4);
        dueError("[n::]", 3);
        dueError("[f/:1]", 2);
        dueError("[f1/:1]", 3);
        dueError(" 1", 0);
        dueError("1 ", 1);
        dueError("~", 0);
    }

    private static void kinds() {
        Due.says("then \"f\" .., \"b\" (a breath), \"r\" (room) or \"n\" (noise), then \":\"");
        String letters = "fbrn";
        for (int c = 32; c <= 126; c++) {
            String text = "[" + (char) c + ":1]";
            if (c == 'f') {
                dueError(text, 2);
            } else if (letters.indexOf(c) < 0) {
                dueError(text, 1);
            } else {
                SpeechCleaner x = Due.of(text);
                Due.due("kind of " + text, x.about(0, 0), letters.indexOf(c));
                Due.due("its first frame", x.about(0, 1), 0);
                Due.due("the frame behind its last one", x.about(0, 2), 1);
                Due.due("its doubt", x.about(0, 3), 0);
                Due.due("it is not held", x.about(0, 4), 0);
            }
        }
        Due.due("kind of a filler", Due.of("[f1:1]").about(0, 0), 0);
        dueError("[:1]", 1);
        dueError("[[b:1]", 1);
        dueError("[]", 1);
        dueError("[bb:1]", 2);
        dueError("[b[:1]", 2);
        dueError("[b1:1]", 2);
        dueError("[r0:1]", 2);
        dueError("[n100:1]", 2);
        dueError("[b]", 2);
    }

    private static void doubtDigits() {
        Due.says("\"f\" and one to three digits (a filler, its doubt)");
        String[] doubts = {"0", "7", "00", "07", "10", "99", "000", "007", "099", "100"};
        for (String doubt : doubts) {
            SpeechCleaner x = Due.of("5[f" + doubt + ":12]");
            Due.due("doubt " + doubt, x.about(0, 3), Integer.parseInt(doubt));
            Due.due("its first frame", x.about(0, 1), 1);
            Due.due("the frame behind its last one", x.about(0, 2), 3);
        }
        dueError("[f:1]", 2);
        dueError("[f]", 2);
        dueError("[fx:1]", 2);
        dueError("[f1]", 3);
        dueError("[f10]", 4);
        dueError("[f100]", 5);
        dueError("[f1b:1]", 3);
        Due.says("(a fourth digit of a doubt .. cannot)");
        dueError("[f0000:1]", 5);
        dueError("[f0100:1]", 5);
        dueError("[f1000:1]", 5);
        dueError("[f9999", 5);
        dueError("12[f1001:1]", 7);
    }

    private static void greatDoubts() {
        Due.says("if there is none, but a doubt is greater than 100, the index of its first digit, for the first such doubt");
        dueFrames("[f100:1]", 1);
        dueError("[f101:1]", 2);
        dueError("[f999:1]", 2);
        dueError("77[f101:1]", 4);
        dueError("[f100:1][f101:1][f102:1]", 10);
        dueError("[b:1][f999:1][f0:1]", 7);
        dueError("[f0:1][f200:1][f101:1]77", 8);
        Due.says("if there is none: another error comes first, wherever it is");
        dueError("[f101:1]x", 8);
        dueError("[f101:1]]", 8);
        dueError("[f101:]", 6);
        dueError("[f101]", 5);
        dueError("[f101:1][f1000:1]", 13);
        dueError("[f101:1", 7);
        dueError("[f101", 5);
        dueError("[f101:1][", 9);
        dueError("[f101:1]" + "[b:1]".repeat(19) + "[", 103);
    }

    private static void framesOfMarks() {
        Due.says("then \":\", one or more digits (its frames), \"]\"");
        dueFrames("[b:0]", 1);
        dueFrames("[b:01]", 2);
        dueFrames("[f0:" + "5".repeat(115) + "]", 115);
        dueError("[b:]", 3);
        dueError("[f5:]", 4);
        dueError("[b:1[", 4);
        dueError("[b:1[b:1]]", 4);
        dueError("[b:1:1]", 4);
        dueError("[b:1b]", 4);
        dueError("[b:b]", 3);
        SpeechCleaner x = Due.of("[b:12][r:3][n:4]");
        Due.due("marks next to one another", x.setting(8), 3);
        Due.due("the first ends", x.about(0, 2), 2);
        Due.due("where the second begins", x.about(1, 1), 2);
    }

    private static void outsideOfMarks() {
        Due.says("a row of digits and marks: what stands in marks alone cannot stand outside of them");
        for (int c = 32; c <= 126; c++) {
            boolean digit = c >= '0' && c <= '9';
            if (!digit && c != '[') {
                dueError("1[b:2]" + (char) c, 6);
            }
        }
    }

    private static void earlyEnds() {
        Due.says("or its length if it ends too early");
        String text = "[f100:12]";
        for (int i = 1; i < text.length(); i++) {
            dueError(text.substring(0, i), i);
        }
        dueFrames(text, 2);
        text = "34[n:56]";
        for (int i = 3; i < text.length(); i++) {
            dueError(text.substring(0, i), i);
        }
        dueFrames(text, 4);
    }

    private static void mostMarks() {
        Due.says("(.. a \"[\" where there are 20 marks already, cannot)");
        dueFrames(TWENTY, 20);
        dueFrames(TWENTY + "12345678901234567890", 40);
        dueError(TWENTY + "[", 100);
        dueError(TWENTY + "[b:1]", 100);
        dueError(TWENTY + "7[x", 101);
        dueError("[b:1]".repeat(19) + "[", 96);
        dueError("[b:1]".repeat(19) + "[b:1", 99);
        SpeechCleaner x = Due.of(TWENTY);
        Due.due("marks", x.setting(8), 20);
        Due.type(x, TWENTY);
        Due.due("marks of the recording do not count", x.read(), 20);
        Due.due("marks then", x.setting(8), 20);
    }

    private static void longestTexts() {
        Due.says("There is a buffer of at most 120 characters (texts as long as that)");
        dueFrames("9".repeat(120), 120);
        dueFrames("9".repeat(115) + "[b:1]", 116);
        dueError("9".repeat(119) + "x", 119);
        dueError("9".repeat(119) + "[", 120);
        dueError("9".repeat(116) + "[b:1", 120);
        SpeechCleaner x = new SpeechCleaner();
        Due.type(x, "9".repeat(120) + "]");
        Due.due("a character that had no room does not count", x.read(), 120);
    }

    private static void errorsLeaveAll() {
        Due.says("The buffer is empty then (with an error it stays).");
        SpeechCleaner x = Due.of("12[b:3]");
        long before = x.fingerprint();
        Due.type(x, "[f1");
        Due.due("read() of [f1", x.read(), -103);
        Due.due("read() again", x.read(), -103);
        Due.due("the recording stays", x.fingerprint(), before);
        Due.due("it goes on where it stopped", x.type(':'), 4);
        Due.type(x, "8]");
        Due.due("read() of [f1:8]", x.read(), 1);
        Due.due("the buffer is empty then", x.clear(), 0);
        Due.type(x, "x");
        Due.due("read() of x", x.read(), -100);
        Due.due("the buffer stays", x.clear(), 1);
        Due.due("only the two that were read are acts", x.undo(), 1);
        Due.due("the recording before", x.fingerprint(), before);
        Due.due("then undo()", x.undo(), 0);
    }

    private static void readReplaces() {
        Due.says("Makes the text the recording, in place of the present frames and marks; settings stay.");
        SpeechCleaner x = new SpeechCleaner();
        x.append(9, 200);
        x.mark(0, 0, 200, 100);
        x.hold(0, true);
        int[] values = {100, 0, 20, 50, 0, 50, 0};
        for (int i = 0; i < values.length; i++) {
            x.set(i, values[i]);
        }
        Due.type(x, "[b:4]5");
        Due.due("read() returns the number of frames", x.read(), 2);
        Due.due("frames", x.setting(7), 2);
        Due.due("marks", x.setting(8), 1);
        Due.due("level(0)", x.level(0), 4);
        Due.due("level(1)", x.level(1), 5);
        Due.due("level(2)", x.level(2), BAD);
        Due.due("the new mark is not held", x.about(0, 4), 0);
        for (int i = 0; i < values.length; i++) {
            Due.due("setting(" + i + ")", x.setting(i), values[i]);
        }
    }
}
