/** The boundary cases that the document names for cuts and the searches in them, sentence by sentence. */
public final class CutEdgesTest {
    private static final int BAD = SpeechCleaner.BAD;
    private static final int NONE = SpeechCleaner.NONE;
    private static final int MIN = Integer.MIN_VALUE;
    private static final int MAX = Integer.MAX_VALUE;

    private static final int DOUBT = 0;
    private static final int ZERO = 1;
    private static final int WINDOW = 2;
    private static final int PAUSE = 3;
    private static final int RHYTHM = 4;
    private static final int LONGEST = 5;
    private static final int SHORTEST = 6;

    public static void main(String[] args) {
        quietSeams();
        outsideOfTheRecording();
        seamNumbers();
        whichMarks();
        ofTwoTheSmaller();
        windowOfTheBeginning();
        windowOfTheEnd();
        windowsOfNothingAndTwenty();
        behindTheMarkBefore();
        behindTheLastCut();
        beforeTheMarksEnd();
        behindItsBeginning();
        beforeTheNextMark();
        roughCuts();
        pauses();
        shortBreaths();
        longBreaths();
        greatestBreaths();
        numbersOfCuts();
        sums();
        windows();
        windowsStay();
        roughAtBothEnds();
        doubts();
        doubtsOfBreaths();
        searchesInTwentyMarks();
        Due.end("CutEdgesTest");
    }

    private static void dueRough(String text, int rough, int... settings) {
        SpeechCleaner x = Due.of(text, settings);
        Due.due(text + ": cuts()", x.cuts(), 1);
        Due.due(text + " with zero level " + x.setting(ZERO) + ": cut(0, 3)", x.cut(0, 3), rough);
    }

    private static void dueCut(String text, int begin, int end, int rough, int... settings) {
        SpeechCleaner x = Due.of(text, settings);
        Due.dueCut(text, x, 0, begin, end);
        Due.due(text + ": cut(0, 3)", x.cut(0, 3), rough);
    }

    private static void quietSeams() {
        Due.says("A seam is quiet if the levels of the frames before and behind it are at most the zero level.");
        for (int zero = 0; zero <= 8; zero++) {
            String quiet = String.valueOf(zero);
            String loud = String.valueOf(zero + 1);
            dueRough(quiet + "[f0:" + quiet + "00]0", 0, ZERO, zero, WINDOW, 0);
            dueRough(loud + "[f0:" + quiet + "00]0", 1, ZERO, zero, WINDOW, 0);
            dueRough(quiet + "[f0:" + loud + "00]0", 1, ZERO, zero, WINDOW, 0);
            dueRough(loud + "[f0:" + loud + "00]0", 1, ZERO, zero, WINDOW, 0);
            dueRough("0[f0:00" + quiet + "]" + quiet, 0, ZERO, zero, WINDOW, 0);
            dueRough("0[f0:00" + loud + "]" + quiet, 1, ZERO, zero, WINDOW, 0);
            dueRough("0[f0:00" + quiet + "]" + loud, 1, ZERO, zero, WINDOW, 0);
        }
        dueRough("9[f0:99]9", 0, ZERO, 9, WINDOW, 0);
    }

    private static void outsideOfTheRecording() {
        Due.says("Outside of the recording levels count as 0.");
        dueCut("[f0:000]9", 0, 2, 0, ZERO, 0);
        dueCut("[f0:0]0", 0, 1, 0, ZERO, 0, WINDOW, 0);
        dueCut("[f0:1]0", 0, 1, 1, ZERO, 0, WINDOW, 0);
        dueCut("0[f0:0]", 1, 2, 0, ZERO, 0, WINDOW, 0);
        dueCut("0[f0:1]", 1, 2, 1, ZERO, 0, WINDOW, 0);
        dueCut("[f0:0]", 0, 1, 0, ZERO, 0, WINDOW, 0);
        dueCut("[f0:1]", 0, 1, 1, ZERO, 0, WINDOW, 0);
        SpeechCleaner x = new SpeechCleaner();
        x.append(9, 199);
        x.append(1, 1);
        x.mark(0, 199, 200, 0);
        Due.dueCut("the last of 200 frames", x, 0, 199, 200, 0, 1);
        x.set(ZERO, 9);
        x.set(WINDOW, 0);
        Due.dueCut("quiet at seam 200", x, 0, 199, 200, 0, 0);
        Due.says("Outside .. levels count as 0: frames that were there before do not count");
        x = new SpeechCleaner();
        x.append(0, 3);
        x.append(9, 5);
        x.undo();
        x.mark(0, 1, 3, 0);
        Due.dueCut("the end of what is left", x, 0, 1, 3, 1, 0);
    }

    private static void seamNumbers() {
        Due.says("A seam is a number from 0 to the number of frames");
        dueCut("[f0:900]0", 2, 3, 0);
        dueCut("[f0:999]00", 0, 4, 1);
        dueCut("9[f0:999]00", 1, 5, 1, WINDOW, 20);
        dueCut("00[f0:999]", 1, 5, 1);
        dueCut("00[f0:99]9", 1, 4, 1, WINDOW, 20);
        dueCut("00[f0:99]90", 1, 6, 0);
        dueCut("00[f0:99]00", 1, 5, 0);
    }

    private static void whichMarks() {
        Due.says("For a filler that is not held, and whose doubt is at most the greatest doubt");
        Due.due("doubt 30 with 30", Due.of("[f30:9]").cuts(), 1);
        Due.due("doubt 31 with 30", Due.of("[f31:9]").cuts(), 0);
        Due.due("doubt 0 with 0", Due.of("[f0:9]", DOUBT, 0).cuts(), 1);
        Due.due("doubt 1 with 0", Due.of("[f1:9]", DOUBT, 0).cuts(), 0);
        Due.due("doubt 100 with 100", Due.of("[f100:9]", DOUBT, 100).cuts(), 1);
        Due.due("doubt 100 with 99", Due.of("[f100:9]", DOUBT, 99).cuts(), 0);
        SpeechCleaner x = Due.of("[f0:9]");
        x.hold(0, true);
        Due.due("a held filler", x.cuts(), 0);
        Due.says("For a breath that is not held (whatever its doubt)");
        x = new SpeechCleaner();
        x.append(9, 3);
        x.mark(1, 1, 2, 100);
        x.set(DOUBT, 0);
        Due.due("a breath of doubt 100 with 0", x.cuts(), 1);
        x.hold(0, true);
        Due.due("a held breath", x.cuts(), 0);
        Due.says("Other marks have no cut.");
        x = Due.of("[r:0][n:0][r:99999999][n:99999999]", DOUBT, 100, LONGEST, 0, SHORTEST, 50);
        Due.due("room and noise", x.cuts(), 0);
        x = new SpeechCleaner();
        Due.due("without marks", x.cuts(), 0);
    }

    private static void ofTwoTheSmaller() {
        Due.says("its cut begins at the quiet seam that is nearest to its first frame f, of two the smaller one");
        dueCut("9[f0:00]0", 2, 3, 0);
        dueCut("90099[f0:90099]00", 7, 11, 0);
        dueCut("9009[f0:90099]00", 2, 10, 0);
        dueCut("90[f0:0000]", 2, 6, 0);
        Due.says("it ends at the quiet seam that is nearest to t, of two the smaller one");
        dueCut("0[f0:9900]9", 0, 4, 0);
        dueCut("0[f0:99009]900", 0, 4, 0);
        dueCut("0[f0:990099]9009", 0, 9, 0);
        dueCut("0[f0:9009]0099", 0, 6, 0);
    }

    private static void windowOfTheBeginning() {
        Due.says("among the seams from f - window to f + window");
        dueCut("00999[f0:90]0", 1, 7, 0, WINDOW, 4);
        dueCut("00999[f0:90]0", 5, 7, 1, WINDOW, 3);
        dueCut("9[f0:99900]0", 5, 6, 0, WINDOW, 4);
        dueCut("9[f0:99900]0", 1, 6, 1, WINDOW, 3);
    }

    private static void windowOfTheEnd() {
        Due.says("among the seams from t - window to t + window");
        dueCut("0[f0:00999]9", 1, 2, 0, WINDOW, 4);
        dueCut("0[f0:00999]9", 1, 6, 1, WINDOW, 3);
        dueCut("0[f0:09]99900", 1, 7, 0, WINDOW, 4);
        dueCut("0[f0:09]99900", 1, 3, 1, WINDOW, 3);
    }

    private static void windowsOfNothingAndTwenty() {
        Due.says("2 the window, 0 to 20: only the seam itself");
        dueCut("0[f0:00]0", 1, 3, 0, WINDOW, 0);
        dueCut("00[f0:900]0", 2, 5, 1, WINDOW, 0);
        dueCut("0[f0:009]00", 1, 4, 1, WINDOW, 0);
        Due.says("2 the window, 0 to 20: twenty seams away, and no more");
        dueCut("00" + "9".repeat(19) + "[f0:90]0", 1, 23, 0, WINDOW, 20);
        dueCut("00" + "9".repeat(19) + "[f0:90]0", 21, 23, 1, WINDOW, 19);
        dueCut("00" + "9".repeat(20) + "[f0:90]0", 22, 24, 1, WINDOW, 20);
        dueCut("0[f0:09]" + "9".repeat(19) + "00", 1, 23, 0, WINDOW, 20);
        dueCut("0[f0:09]" + "9".repeat(19) + "00", 1, 3, 1, WINDOW, 19);
        dueCut("0[f0:09]" + "9".repeat(20) + "00", 1, 3, 1, WINDOW, 20);
    }

    private static void behindTheMarkBefore() {
        Due.says("not less than the end (the frame behind) of the mark before it (if there is one)");
        for (String mark : new String[] {"r", "n", "f99", "b"}) {
            SpeechCleaner x = Due.of("[" + mark + ":0]0[f0:90]0", SHORTEST, 0);
            Due.dueCut("a seam at the end of " + mark, x, 0, 1, 4, 1, 0, 1);
            x = Due.of("[" + mark + ":00]9[f0:90]0", SHORTEST, 0);
            Due.dueCut("a seam one before the end of " + mark, x, 0, 3, 5, 1, 1, 1);
            x.hold(0, true);
            Due.dueCut("also if it is held", x, 0, 3, 5, 1, 1, 1);
            x.unmark(0);
            Due.dueCut("without it", x, 0, 1, 5, 2, 0, 0);
        }
        Due.says("the mark before it, not one further before");
        SpeechCleaner x = Due.of("[r:0]0[r:00]9[f0:90]0");
        Due.dueCut("two marks before it", x, 0, 5, 7, 1, 1, 2);
        x.unmark(1);
        Due.dueCut("one of them", x, 0, 3, 7, 2, 0, 1);
    }

    private static void behindTheLastCut() {
        Due.says("not less than the end of the last cut that was found for a mark before it (if there is one)");
        SpeechCleaner x = Due.of("0[f0:9]9900[f0:99]00");
        Due.dueCut("it ends behind its mark", x, 0, 0, 5, 2, 0, 0);
        Due.dueCut("the next one may begin there", x, 1, 5, 9, 2, 0, 1);
        x = Due.of("0[f0:9]000[f0:99]00");
        Due.dueCut("it ends at the first quiet seam", x, 0, 0, 3, 1, 0, 0);
        Due.dueCut("the next one begins nearer", x, 1, 4, 8, 2, 0, 1);
        x = Due.of("0[f0:900]9[f0:99]00");
        Due.dueCut("it ends before its mark does", x, 0, 0, 3, 1, 0, 0);
        Due.dueCut("the mark's end binds the next one", x, 1, 5, 8, 1, 1, 1);
        Due.says("the last cut of a breath");
        x = Due.of("0[b:0]0[f0:90]0");
        Due.dueCut("the breath", x, 0, 1, 2, 0, 0, 0);
        Due.dueCut("the filler begins at its end", x, 1, 2, 5, 1, 0, 1);
    }

    private static void beforeTheMarksEnd() {
        Due.says("and are less than the end t of the mark");
        dueCut("9[f0:900]0", 3, 4, 0);
        dueCut("9[f0:90]0", 1, 3, 1);
        dueCut("9[f0:9]00", 1, 3, 1);
        dueCut("0[f0:0]0", 1, 2, 0);
    }

    private static void behindItsBeginning() {
        Due.says("that are greater than its beginning");
        dueCut("0[f0:00999]9", 1, 2, 0);
        dueCut("0[f0:0999]9", 1, 5, 1);
        dueCut("9[f0:9900]9", 4, 5, 1);
        dueCut("00[f0:9]9", 1, 3, 1);
        Due.says("greater than its beginning, also if that is rough");
        dueCut("9[f0:99]0", 1, 4, 1);
        dueCut("00[f0:9]9", 2, 3, 1, WINDOW, 0);
        dueCut("0[f0:9]9", 0, 2, 1, WINDOW, 2);
    }

    private static void beforeTheNextMark() {
        Due.says("and not greater than the first frame of the next mark (the number of frames, if there is none)");
        for (String mark : new String[] {"r", "n", "f99", "b", "f0"}) {
            SpeechCleaner x = Due.of("0[f0:09]90[" + mark + ":0]");
            Due.dueCut("a seam at the first frame of " + mark, x, 0, 1, 5, 2, 0, 0);
            x = Due.of("0[f0:09]99[" + mark + ":00]");
            Due.dueCut("a seam one behind the first frame of " + mark, x, 0, 1, 3, 1, 1, 0);
            x.hold(1, true);
            Due.dueCut("also if it is held", x, 0, 1, 3, 1, 1, 0);
            x.unmark(1);
            Due.dueCut("without it", x, 0, 1, 6, 2, 0, 0);
        }
        dueCut("0[f0:09][r:9]00", 1, 3, 1);
        dueCut("0[f0:00][r:0]00", 1, 3, 0);
        dueCut("0[f0:09]90", 1, 5, 0);
        dueCut("0[f0:09]99", 1, 3, 1);
    }

    private static void roughCuts() {
        Due.says("if there is no such seam, it begins at f (ends at t), and is rough");
        dueCut("00[f0:99]00", 1, 5, 0);
        dueCut("99[f0:99]00", 2, 5, 1);
        dueCut("00[f0:99]99", 1, 4, 1);
        dueCut("99[f0:99]99", 2, 4, 1);
        SpeechCleaner x = Due.of("00[f0:99]00[f0:99]99[f0:99]00");
        Due.due("the first is not rough", x.cut(0, 3), 0);
        Due.due("the second is rough at its end", x.cut(1, 3), 1);
        Due.due("the third is rough at its beginning", x.cut(2, 3), 1);
    }

    private static void pauses() {
        Due.says("Its pause is the smaller one of two numbers: the longest pause; and its length times the rhythm / 100");
        String nine = "00[f0:9999999]00";
        int[][] pauses = {{4, 50, 4}, {5, 50, 4}, {3, 50, 3}, {0, 50, 0}, {50, 0, 0}, {50, 1, 0}, {50, 11, 0},
            {50, 12, 1}, {50, 22, 1}, {50, 23, 2}, {50, 99, 8}, {50, 100, 9}, {9, 100, 9}, {8, 100, 8}, {0, 100, 0}};
        for (int[] p : pauses) {
            SpeechCleaner x = Due.of(nine, PAUSE, p[0], RHYTHM, p[1]);
            Due.due("longest pause " + p[0] + ", rhythm " + p[1] + ": cut(0, 2)", x.cut(0, 2), p[2]);
            Due.due("the result is as long", x.length(), 2 + p[2]);
        }
        SpeechCleaner x = new SpeechCleaner();
        x.append(9, 200);
        x.mark(0, 0, 200, 0);
        x.set(PAUSE, 50);
        x.set(RHYTHM, 100);
        Due.dueCut("all of 200 frames, the longest pause of all", x, 0, 0, 200, 50, 1, 0);
        x.set(RHYTHM, 25);
        Due.due("a quarter of 200", x.cut(0, 2), 50);
        x.set(RHYTHM, 24);
        Due.due("24 of 100 of 200", x.cut(0, 2), 48);
        Due.says("its length: that of the cut, not of the mark");
        x = Due.of("0000[f0:9]9900", PAUSE, 50, RHYTHM, 100);
        Due.due("a cut longer than its mark", x.cut(0, 2), 5);
        x = Due.of("9[f0:99000000]0", PAUSE, 50, RHYTHM, 100);
        Due.dueCut("a cut shorter than its mark", x, 0, 4, 9, 5, 0, 0);
    }

    private static void dueBreath(int many, int longest, int shortest, int begin, int end) {
        SpeechCleaner x = new SpeechCleaner();
        x.append(9, 1);
        x.append(5, many);
        x.append(9, 1);
        x.mark(1, 1, 1 + many, 0);
        x.set(LONGEST, longest);
        x.set(SHORTEST, shortest);
        x.set(PAUSE, 50);
        x.set(RHYTHM, 100);
        String when = many + " frames, longest " + longest + ", shortest " + shortest;
        Due.due(when + ": cuts()", x.cuts(), begin == NONE ? 0 : 1);
        if (begin != NONE) {
            Due.dueCut(when, x, 0, begin, end, 0, 0, 0);
        }
        Due.due(when + ": length()", x.length(), begin == NONE ? many + 2 : many + 2 - (end - begin));
    }

    private static void shortBreaths() {
        Due.says("if n is less than the shortest breath, its cut is from f to t");
        dueBreath(1, 6, 2, 1, 2);
        dueBreath(2, 6, 2, NONE, NONE);
        dueBreath(1, 6, 1, NONE, NONE);
        dueBreath(1, 6, 0, NONE, NONE);
        dueBreath(4, 50, 5, 1, 5);
        dueBreath(5, 50, 5, NONE, NONE);
        Due.says("otherwise: also if n is greater than the longest breath");
        dueBreath(4, 2, 5, 1, 5);
        dueBreath(5, 2, 5, 2, 5);
        dueBreath(4, 0, 50, 1, 5);
    }

    private static void longBreaths() {
        Due.says("if n is greater than the longest breath l, its cut is from f + (l + 1) / 2 to t - l / 2");
        dueBreath(6, 6, 2, NONE, NONE);
        dueBreath(7, 6, 2, 4, 5);
        dueBreath(8, 6, 2, 4, 6);
        dueBreath(5, 5, 2, NONE, NONE);
        dueBreath(6, 5, 2, 4, 5);
        dueBreath(8, 5, 2, 4, 7);
        dueBreath(1, 1, 0, NONE, NONE);
        dueBreath(2, 1, 0, 2, 3);
        dueBreath(3, 2, 0, 2, 3);
        dueBreath(1, 0, 0, 1, 2);
        dueBreath(9, 0, 0, 1, 10);
    }

    private static void greatestBreaths() {
        Due.says("5 the longest breath, 0 to 50; 6 the shortest breath, 0 to 50");
        dueBreath(50, 50, 0, NONE, NONE);
        dueBreath(51, 50, 0, 26, 27);
        dueBreath(198, 50, 50, 26, 174);
        dueBreath(198, 49, 50, 26, 175);
        dueBreath(49, 50, 50, 1, 50);
        dueBreath(50, 50, 50, NONE, NONE);
        dueBreath(50, 0, 50, 1, 51);
        Due.says("(a breath at the recording's very beginning and end)");
        SpeechCleaner x = new SpeechCleaner();
        x.append(9, 200);
        x.mark(1, 0, 200, 0);
        Due.dueCut("all of 200 frames", x, 0, 3, 197, 0, 0, 0);
        x.set(LONGEST, 0);
        Due.dueCut("all of 200 frames, dropped", x, 0, 0, 200, 0, 0, 0);
    }

    private static void numbersOfCuts() {
        Due.says("cut: BAD if there is no such cut, or what is not in its range.");
        SpeechCleaner x = new SpeechCleaner();
        for (int what = 0; what <= 4; what++) {
            Due.due("cut(0, " + what + ") without cuts", x.cut(0, what), BAD);
        }
        x = Due.of("[b:9][r:9][f99:9][b:9]");
        Due.due("cuts()", x.cuts(), 2);
        for (int what = 0; what <= 4; what++) {
            for (int cut : new int[] {-1, 2, 3, MIN, MAX}) {
                Due.due("cut(" + cut + ", " + what + ")", x.cut(cut, what), BAD);
            }
        }
        for (int what : new int[] {-1, 5, MIN, MAX}) {
            Due.due("cut(0, " + what + ")", x.cut(0, what), BAD);
            Due.due("cut(2, " + what + ")", x.cut(2, what), BAD);
        }
        Due.says("cut: from 0, in the order of their marks; 4 its mark");
        Due.dueCut("the first", x, 0, 0, 1, 0, 0, 0);
        Due.dueCut("the second", x, 1, 3, 4, 0, 0, 3);
        x = Due.of("[b:1]".repeat(20));
        Due.due("as many cuts as marks", x.cuts(), 20);
        Due.dueCut("the twentieth", x, 19, 19, 20, 0, 0, 19);
        Due.due("cut(20, 0)", x.cut(20, 0), BAD);
    }

    private static void sums() {
        Due.says("sum: BAD if what is not in its range.");
        SpeechCleaner x = Due.of("[b:9]");
        for (int what : new int[] {-1, 3, MIN, MAX}) {
            Due.due("sum(" + what + ")", x.sum(what), BAD);
        }
        Due.says("sum: of all cuts");
        x = new SpeechCleaner();
        for (int what = 0; what <= 2; what++) {
            Due.due("sum(" + what + ") without cuts", x.sum(what), 0);
        }
        x = Due.of("[f0:9]".repeat(19), PAUSE, 50, RHYTHM, 100);
        x.append(9, 1);
        x.mark(0, 19, 20, 0);
        Due.due("sum(0) of 20 cuts", x.sum(0), 20);
        Due.due("sum(1) of 20 cuts", x.sum(1), 20);
        Due.due("sum(2) of 20 cuts", x.sum(2), 20);
        x = new SpeechCleaner();
        x.append(0, 200);
        x.mark(0, 0, 200, 0);
        Due.due("sum(0) of 200 frames", x.sum(0), 200);
        Due.due("sum(1), the longest pause", x.sum(1), 4);
        Due.due("sum(2), at quiet seams", x.sum(2), 0);
    }

    private static void windows() {
        Due.says("bestWindow: Returns the window, from 0 to 20.");
        Due.due("without frames", new SpeechCleaner().bestWindow(), 0);
        Due.due("without cuts", Due.of("99[f99:9]9", WINDOW, 9).bestWindow(), 0);
        Due.due("quiet at once", Due.of("0[f0:00]0", WINDOW, 9).bestWindow(), 0);
        Due.due("1 is needed", Due.of("00[f0:9]00", WINDOW, 9).bestWindow(), 1);
        Due.due("20 are needed", Due.of("00" + "9".repeat(19) + "[f0:90]0").bestWindow(), 20);
        Due.due("19 are needed", Due.of("00" + "9".repeat(18) + "[f0:90]0").bestWindow(), 19);
        Due.due("21 were needed", Due.of("00" + "9".repeat(20) + "[f0:90]0").bestWindow(), 0);
        Due.says("bestWindow: the smallest window with which fewest cuts are rough");
        SpeechCleaner x = Due.of("00[f0:9]00999[f0:9]90099[f0:99]99");
        Due.due("one stays rough", x.bestWindow(), 4);
        x.hold(1, true);
        Due.due("the one that needs 4 held", x.bestWindow(), 1);
        Due.says("bestWindow: Breaths are not rough with any window");
        Due.due("breaths alone", Due.of("99[b:9]99").bestWindow(), 0);
    }

    private static void windowsStay() {
        Due.says("bestWindow: all else as it is");
        SpeechCleaner x = Due.of("9999[f0:00]0009[f31:99]00", WINDOW, 7);
        long before = x.fingerprint();
        Due.due("the doubtful one is not cut", x.bestWindow(), 1);
        Due.due("nothing changes", x.fingerprint(), before);
        x.set(DOUBT, 31);
        Due.due("now it is cut", x.bestWindow(), 2);
        x.set(ZERO, 9);
        Due.due("with another zero level", x.bestWindow(), 0);
    }

    private static void roughAtBothEnds() {
        Due.says("(one that is rough at both ends counts once)");
        Due.due("sum(2)", Due.of("99[f0:99]99").sum(2), 1);
        Due.due("a quiet beginning does not help a rough end", Due.of("0099[f0:99]9999999").bestWindow(), 0);
        Due.due("a quiet end does not help a rough beginning", Due.of("9999[f0:99]9900").bestWindow(), 0);
    }

    private static void doubts() {
        Due.says("greatestDoubt: BAD if frames is negative");
        SpeechCleaner x = Due.of("[f20:9]9[f40:99]", WINDOW, 0);
        for (int frames : new int[] {-1, MIN}) {
            Due.due("greatestDoubt(" + frames + ")", x.greatestDoubt(frames), BAD);
        }
        Due.due("without marks", new SpeechCleaner().greatestDoubt(-1), BAD);
        Due.says("greatestDoubt: at most so many frames are cut");
        int[] want = {19, 39, 39, 100, 100};
        for (int frames = 0; frames < want.length; frames++) {
            Due.due("greatestDoubt(" + frames + ")", x.greatestDoubt(frames), want[frames]);
        }
        Due.due("greatestDoubt(max)", x.greatestDoubt(MAX), 100);
        Due.says("greatestDoubt: Returns the greatest one from 0 to 100 that could be set");
        Due.due("without marks", new SpeechCleaner().greatestDoubt(0), 100);
        Due.due("doubt 100 too much", Due.of("[f100:9]").greatestDoubt(0), 99);
        Due.due("doubt 100 allowed", Due.of("[f100:9]").greatestDoubt(1), 100);
        Due.due("doubt 1 too much", Due.of("[f1:9]").greatestDoubt(0), 0);
        Due.says("greatestDoubt: NONE if there is none.");
        Due.due("doubt 0 too much", Due.of("[f0:9]").greatestDoubt(0), NONE);
        Due.due("doubt 0 allowed", Due.of("[f0:9]").greatestDoubt(1), 100);
        Due.says("greatestDoubt: all else as it is");
        x = Due.of("00[f20:9]9[f40:99]9900", WINDOW, 1, DOUBT, 20);
        long before = x.fingerprint();
        Due.due("with the window that is set", x.greatestDoubt(2), 39);
        Due.due("nothing changes", x.fingerprint(), before);
        x.hold(0, true);
        Due.due("the first one held", x.greatestDoubt(2), 100);
        x = Due.of("000[f20:9]9990000", WINDOW, 5);
        Due.due("the window lets it grow to 6 frames", x.greatestDoubt(5), 19);
        Due.due("6 frames", x.greatestDoubt(6), 100);
        x.set(WINDOW, 1);
        Due.due("with a smaller window it ends rough", x.greatestDoubt(2), 100);
        x = new SpeechCleaner();
        x.append(9, 200);
        x.mark(0, 0, 200, 50);
        Due.due("greatestDoubt(199)", x.greatestDoubt(199), 49);
        Due.due("greatestDoubt(200)", x.greatestDoubt(200), 100);
    }

    private static void searchesInTwentyMarks() {
        Due.says("There are at most 20 marks (the searches look at all of them)");
        SpeechCleaner x = Due.of("009[f0:9]900" + "9".repeat(40));
        for (int i = 0; i < 19; i++) {
            x.mark(0, 8 + 2 * i, 9 + 2 * i, i + 1);
        }
        Due.due("cuts()", x.cuts(), 20);
        Due.due("19 of 20 are rough with any window", x.bestWindow(), 2);
        x.set(WINDOW, 0);
        for (int frames = 1; frames <= 19; frames++) {
            Due.due("greatestDoubt(" + frames + ")", x.greatestDoubt(frames), frames - 1);
        }
        Due.due("greatestDoubt(0)", x.greatestDoubt(0), NONE);
        Due.due("greatestDoubt(20)", x.greatestDoubt(20), 100);
        x.hold(0, true);
        x.set(WINDOW, 20);
        Due.due("all of 19 are rough with any window", x.bestWindow(), 0);
    }

    private static void doubtsOfBreaths() {
        Due.says("(those of breaths, too, as sum() tells)");
        SpeechCleaner x = Due.of("[b:9]9[f5:99]9[b:99999999]", WINDOW, 0);
        Due.due("sum(0)", x.sum(0), 1 + 2 + 2);
        Due.due("greatestDoubt(2)", x.greatestDoubt(2), NONE);
        Due.due("greatestDoubt(3)", x.greatestDoubt(3), 4);
        Due.due("greatestDoubt(4)", x.greatestDoubt(4), 4);
        Due.due("greatestDoubt(5)", x.greatestDoubt(5), 100);
        x = new SpeechCleaner();
        x.append(9, 4);
        x.mark(1, 0, 1, 70);
        Due.due("the doubt of a breath does not help", x.greatestDoubt(0), NONE);
        x.unmark(0);
        x.mark(3, 0, 1, 70);
        Due.due("nor is a noise cut", x.greatestDoubt(0), 100);
        Due.says("not the frames of pauses");
        x = Due.of("9[f0:9999]9", WINDOW, 0, RHYTHM, 100);
        Due.due("greatestDoubt(3)", x.greatestDoubt(3), NONE);
        Due.due("greatestDoubt(4)", x.greatestDoubt(4), 100);
    }
}
