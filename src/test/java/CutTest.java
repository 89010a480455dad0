/** Promises 14 to 18: the cuts and what is searched in them. */
public final class CutTest {
    public static void main(String[] args) {
        beginnings();
        ends();
        neighbours();
        pauses();
        breaths();
        sums();
        wrongNumbers();
        bestWindows();
        greatestDoubts();
        Due.end("CutTest");
    }

    private static void beginnings() {
        SpeechCleaner x = Due.of("9900999[f0:99]00");
        Due.dueCut("the quiet seam before", x, 0, 3, 10, 3, 0, 0);
        x.set(2, 4);
        Due.dueCut("the window's last seam", x, 0, 3, 10, 3, 0, 0);
        x.set(2, 3);
        Due.dueCut("outside of the window", x, 0, 7, 10, 1, 1, 0);
        Due.dueCut("of two the smaller one", Due.of("9009[f0:90099]00"), 0, 2, 10, 4, 0, 0);
        Due.dueCut("the nearer one inside", Due.of("90099[f0:90099]00"), 0, 7, 11, 2, 0, 0);
        Due.dueCut("no quiet seam", Due.of("99[f0:999]00"), 0, 2, 6, 2, 1, 0);
        Due.dueCut("not at the mark's end", Due.of("99[f0:990]00"), 0, 2, 5, 1, 1, 0);
        Due.dueCut("one frame before the mark's end", Due.of("99[f0:9900]00"), 0, 5, 6, 0, 0, 0);
        Due.dueCut("levels before the recording are 0", Due.of("[f0:0]99"), 0, 0, 1, 0, 1, 0);
        x = Due.of("992[f0:2]299");
        Due.dueCut("louder than the zero level", x, 0, 3, 4, 0, 1, 0);
        x.set(1, 2);
        Due.dueCut("as loud as the zero level", x, 0, 3, 4, 0, 0, 0);
    }

    private static void ends() {
        Due.dueCut("the quiet seam behind", Due.of("00[f0:99]9900"), 0, 1, 7, 3, 0, 0);
        SpeechCleaner x = Due.of("00[f0:99]99900[r:5]");
        Due.dueCut("the window's last seam", x, 0, 1, 8, 3, 0, 0);
        x.set(2, 3);
        Due.dueCut("outside of the window", x, 0, 1, 4, 1, 1, 0);
        Due.dueCut("of two the smaller one", Due.of("00[f0:90099]99009"), 0, 1, 4, 1, 0, 0);
        Due.dueCut("no quiet end, though quiet at the beginning", Due.of("0009[f0:99]9999"), 0, 2, 6, 2, 1, 0);
        x = Due.of("00[f0:99]99[b:00]");
        Due.dueCut("up to the next mark's first frame", x, 0, 1, 4, 1, 1, 0);
        x = Due.of("00[f0:99]90[b:00]");
        Due.dueCut("at the next mark's first frame", x, 0, 1, 6, 2, 0, 0);
        Due.dueCut("the end of the recording", Due.of("00[f0:99]90"), 0, 1, 6, 2, 0, 0);
        Due.dueCut("both rough", Due.of("99[f0:99]99"), 0, 2, 4, 1, 1, 0);
    }

    private static void neighbours() {
        SpeechCleaner x = Due.of("00[f0:9]00[f0:9]00");
        Due.dueCut("first", x, 0, 1, 4, 1, 0, 0);
        Due.dueCut("second", x, 1, 4, 7, 1, 0, 1);
        x = Due.of("00[f0:99]999[f0:99]99000");
        Due.dueCut("first stops rough", x, 0, 1, 4, 1, 1, 0);
        Due.dueCut("second cannot begin quiet", x, 1, 7, 12, 2, 1, 1);
        x = Due.of("00[f99:00]9[f0:99]0000");
        Due.dueCut("not before the end of the mark before", x, 0, 5, 8, 1, 1, 1);
        x = Due.of("00[f0:90]0[r:0]0[f0:9]90");
        Due.dueCut("first ends at its own end", x, 0, 1, 4, 1, 0, 0);
        Due.dueCut("second behind the room", x, 1, 6, 10, 2, 0, 2);
        x = Due.of("[f0:9]0000[f0:0]");
        Due.dueCut("up to a quiet seam", x, 0, 0, 2, 1, 1, 0);
        Due.dueCut("from its own first frame", x, 1, 5, 6, 0, 0, 1);
        x = Due.of("0[f0:9]9900[f0:99]00");
        Due.dueCut("the end behind a loud stretch", x, 0, 0, 5, 2, 0, 0);
        Due.dueCut("from the end of the last cut", x, 1, 5, 9, 2, 0, 1);
    }

    private static void pauses() {
        SpeechCleaner x = Due.of("00[f0:9999999]00");
        Due.dueCut("half of 9 is 4", x, 0, 1, 10, 4);
        x.set(3, 3);
        Due.dueCut("the longest pause", x, 0, 1, 10, 3);
        x.set(3, 50);
        x.set(4, 100);
        Due.dueCut("the whole rhythm", x, 0, 1, 10, 9);
        x.set(4, 33);
        Due.dueCut("rounded down", x, 0, 1, 10, 2);
        x.set(4, 0);
        Due.dueCut("no rhythm", x, 0, 1, 10, 0);
    }

    private static void breaths() {
        SpeechCleaner x = Due.of("99[b:55555]99");
        Due.due("neither short nor long", x.cuts(), 0);
        Due.due("as long as the shortest", Due.of("99[b:55]99").cuts(), 0);
        x.set(5, 5);
        Due.due("as long as the longest", x.cuts(), 0);
        x.set(5, 4);
        Due.dueCut("longest 4", x, 0, 4, 5, 0, 0, 0);
        x.set(5, 3);
        Due.dueCut("longest 3", x, 0, 4, 6, 0, 0, 0);
        x.set(5, 0);
        Due.dueCut("longest 0", x, 0, 2, 7, 0, 0, 0);
        x.set(6, 5);
        Due.dueCut("as short as the shortest", x, 0, 2, 7, 0, 0, 0);
        x.set(5, 2);
        x.set(6, 6);
        Due.dueCut("shorter than the shortest", x, 0, 2, 7, 0, 0, 0);
        x.set(0, 0);
        Due.due("doubt does not matter", x.cuts(), 1);
        x.hold(0, true);
        Due.due("held", x.cuts(), 0);
        x = new SpeechCleaner();
        x.append(0, 9);
        x.mark(1, 2, 3, 100);
        Due.due("a breath of great doubt is cut", x.cuts(), 1);
    }

    private static void sums() {
        SpeechCleaner x = Due.of("00[f0:9999]00[f0:99]99[b:9][f99:00]");
        Due.due("cuts()", x.cuts(), 3);
        Due.due("sum(0)", x.sum(0), 6 + 3 + 1);
        Due.due("sum(1)", x.sum(1), 3 + 1);
        Due.due("sum(2)", x.sum(2), 1);
        Due.due("sum(-1)", x.sum(-1), SpeechCleaner.BAD);
        Due.due("sum(3)", x.sum(3), SpeechCleaner.BAD);
        x = new SpeechCleaner();
        for (int what = 0; what < 3; what++) {
            Due.due("sum(" + what + ") of nothing", x.sum(what), 0);
        }
    }

    private static void wrongNumbers() {
        SpeechCleaner x = Due.of("[b:9]");
        Due.due("cut(0, 4)", x.cut(0, 4), 0);
        Due.due("cut(0, 5)", x.cut(0, 5), SpeechCleaner.BAD);
        Due.due("cut(0, -1)", x.cut(0, -1), SpeechCleaner.BAD);
        Due.due("cut(1, 0)", x.cut(1, 0), SpeechCleaner.BAD);
        Due.due("cut(-1, 0)", x.cut(-1, 0), SpeechCleaner.BAD);
    }

    private static void bestWindows() {
        SpeechCleaner x = Due.of("9900999[f0:99]9900");
        Due.due("the smallest that reaches both", x.bestWindow(), 4);
        Due.due("the window stays", x.setting(2), 5);
        x = Due.of("9900999[f0:99]99");
        Due.due("rough at one end is as rough as at both", x.bestWindow(), 0);
        x = Due.of("99009[f99:99]9009");
        Due.due("no cuts", x.bestWindow(), 0);
        x.set(0, 99);
        Due.due("with the doubt that is set", x.bestWindow(), 2);
        x = new SpeechCleaner();
        x.append(0, 2);
        x.append(9, 42);
        x.append(0, 2);
        x.mark(0, 21, 24, 0);
        Due.due("window 20", x.bestWindow(), 0);
        x.mark(0, 30, 31, 99);
        x.unmark(1);
        x.unmark(0);
        x.mark(0, 21, 25, 0);
        Due.due("window 20 reaches both", x.bestWindow(), 20);
        Due.due("it is no act", x.undo(), 3);
        x = Due.of("009[f0:9]900" + "9".repeat(40));
        for (int i = 0; i < 19; i++) {
            x.mark(0, 8 + 2 * i, 9 + 2 * i, 0);
        }
        Due.due("20 cuts", x.cuts(), 20);
        Due.due("19 of 20 are rough", x.bestWindow(), 2);
    }

    private static void greatestDoubts() {
        SpeechCleaner x = Due.of("[f20:9]9[f40:99]9[f60:999][b:9]");
        x.set(2, 0);
        int[] want = {SpeechCleaner.NONE, 19, 39, 39, 59, 59, 59, 100, 100};
        for (int frames = 0; frames < want.length; frames++) {
            Due.due("greatestDoubt(" + frames + ")", x.greatestDoubt(frames), want[frames]);
        }
        Due.due("greatestDoubt(max)", x.greatestDoubt(Integer.MAX_VALUE), 100);
        Due.due("greatestDoubt(-1)", x.greatestDoubt(-1), SpeechCleaner.BAD);
        Due.due("the doubt stays", x.setting(0), 30);
        x.hold(2, true);
        Due.due("one held", x.greatestDoubt(4), 100);
        x = Due.of("[f0:9]");
        Due.due("doubt 0 is cut with doubt 0", x.greatestDoubt(0), SpeechCleaner.NONE);
        x = Due.of("[f1:9]");
        Due.due("doubt 1 is not cut with doubt 0", x.greatestDoubt(0), 0);
        x = Due.of("[f100:9]");
        Due.due("doubt 100", x.greatestDoubt(0), 99);
    }
}
