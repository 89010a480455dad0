/** The boundary cases that the document names for room sound and the result, sentence by sentence. */
public final class ResultEdgesTest {
    private static final int BAD = SpeechCleaner.BAD;
    private static final int NONE = SpeechCleaner.NONE;
    private static final int MIN = Integer.MIN_VALUE;
    private static final int MAX = Integer.MAX_VALUE;

    private static final int ZERO = 1;
    private static final int WINDOW = 2;
    private static final int PAUSE = 3;
    private static final int RHYTHM = 4;
    private static final int SHORTEST = 6;

    public static void main(String[] args) {
        roomBeginsAnew();
        roomInOrder();
        withoutRoom();
        pausesAtBothEnds();
        nothingIsHeard();
        cutsAsTheyAre();
        fullResult();
        noise();
        noiseOfTheRecordingAlone();
        heardArguments();
        whereEdges();
        clickArguments();
        clickDifferences();
        loudnessEdges();
        shareEdges();
        silenceEdges();
        Due.end("ResultEdgesTest");
    }

    /** An object whose fillers are cut as they are marked, and become pauses as long as they are. */
    private static SpeechCleaner ofWholePauses(String text) {
        return Due.of(text, WINDOW, 0, PAUSE, 50, RHYTHM, 100);
    }

    private static void roomBeginsAnew() {
        Due.says("Pauses take their frames from it, one after the other; behind its end it begins anew.");
        SpeechCleaner x = ofWholePauses("[r:3]9[f0:555]");
        Due.dueText("a room of one frame", Due.sources(x), "0 1 1000 1000 1000");
        Due.dueText("its levels", Due.levels(x), "3 9 3 3 3");
        x = ofWholePauses("[r:34]9[f0:55]9[f0:55]");
        Due.dueText("a pause that ends with the room", Due.sources(x), "0 1 2 1000 1001 5 1000 1001");
        x = ofWholePauses("[r:345]9[f0:55]9[f0:55]");
        Due.dueText("a pause that ends one before it", Due.sources(x), "0 1 2 3 1000 1001 6 1002 1000");
        x = ofWholePauses("[r:34]9[f0:555]9[f0:55]");
        Due.dueText("a pause that ends one behind it", Due.sources(x), "0 1 2 1000 1001 1000 6 1001 1000");
        x = ofWholePauses("[r:34]9[f0:5555555]");
        Due.dueText("more than thrice", Due.sources(x), "0 1 2 1000 1001 1000 1001 1000 1001 1000");
        Due.says("the first pause from its beginning on");
        Due.dueText("each question begins from there", Due.sources(x), "0 1 2 1000 1001 1000 1001 1000 1001 1000");
        Due.says("a pause of no frames takes none");
        x = Due.of("[r:34]9[f0:5]9[f0:55]", WINDOW, 0);
        Due.dueText("half of one is none", Due.sources(x), "0 1 2 4 1000");
        Due.says("a breath's pause is 0: it takes none");
        x = ofWholePauses("[r:34]9[f0:5]9[b:5]9[f0:5]");
        Due.dueText("a breath between", Due.sources(x), "0 1 2 1000 4 6 1001");
    }

    private static void roomInOrder() {
        Due.says("ROOM SOUND is the row of all frames of marks of the kind room, in their order.");
        SpeechCleaner x = ofWholePauses("9[f0:555]9[r:12]9[r:3]");
        Due.dueText("it may stand behind the pause", Due.sources(x), "0 1005 1006 1008 4 5 6 7 8");
        x = ofWholePauses("7890");
        x.mark(2, 2, 3, 0);
        x.mark(2, 0, 1, 100);
        x.mark(0, 3, 4, 0);
        Due.dueText("marked later, but earlier", Due.sources(x), "0 1 2 1000");
        x.hold(0, true);
        Due.dueText("held", Due.sources(x), "0 1 2 1000");
        x.unmark(0);
        Due.dueText("unmarked", Due.sources(x), "0 1 2 1002");
        x = new SpeechCleaner();
        x.append(4, 200);
        x.mark(0, 0, 1, 0);
        x.mark(2, 199, 200, 0);
        x.set(WINDOW, 0);
        x.set(RHYTHM, 100);
        Due.due("the last of 200 frames", x.heard(0, 0), 1199);
        Due.due("its level", x.heard(0, 1), 4);
        x.unmark(1);
        x.mark(2, 1, 200, 0);
        Due.due("room of 199 frames", x.heard(0, 0), 1001);
        Due.due("length()", x.length(), 200);
    }

    private static void withoutRoom() {
        Due.says("Without such marks the frames of pauses are empty. (2000, level 0)");
        SpeechCleaner x = ofWholePauses("9[f0:55]9[n:9][b:99]");
        Due.dueText("sources", Due.sources(x), "0 2000 2000 3 4 5 6");
        Due.dueText("levels", Due.levels(x), "9 0 0 9 4 9 9");
        x.unmark(1);
        x.mark(2, 4, 5, 0);
        Due.dueText("with such a mark", Due.sources(x), "0 1004 1004 3 4 5 6");
    }

    private static void pausesAtBothEnds() {
        Due.says("the frames of the recording in their order, but in place of each cut the frames of its pause");
        SpeechCleaner x = ofWholePauses("[f0:55]9[f0:5]");
        Due.dueText("at the beginning and at the end", Due.sources(x), "2000 2000 2 2000");
        x = ofWholePauses("[r:1][f0:5][f0:5]9");
        Due.dueText("one cut behind another", Due.sources(x), "0 1000 1000 3");
        x = ofWholePauses("1[b:5][b:5]9");
        Due.dueText("two breaths", Due.sources(x), "0 3");
        x = ofWholePauses("[f0:5]");
        Due.dueText("nothing but a pause", Due.sources(x), "2000");
    }

    private static void nothingIsHeard() {
        Due.says("length: Returns the number of frames.");
        Due.due("without frames", new SpeechCleaner().length(), 0);
        Due.due("all is cut", Due.of("[b:9][b:9]").length(), 0);
        Due.due("all but one", Due.of("[b:9]9").length(), 1);
        SpeechCleaner x = Due.of("[f0:9]", RHYTHM, 0);
        Due.due("a filler without a pause", x.length(), 0);
        x.set(RHYTHM, 100);
        Due.due("with a pause", x.length(), 1);
    }

    private static void cutsAsTheyAre() {
        Due.says("in place of each cut the frames of its pause: of the cuts with the present settings");
        SpeechCleaner x = Due.of("00[f30:9]9900");
        Due.dueText("doubt 30 with 30, in the window", Due.sources(x), "0 2000 2000 6");
        x.set(0, 29);
        Due.dueText("doubt 30 with 29", Due.sources(x), "0 1 2 3 4 5 6");
        x.set(0, 31);
        x.set(WINDOW, 2);
        Due.dueText("the end is out of the window", Due.sources(x), "0 2000 3 4 5 6");
        x.set(WINDOW, 3);
        Due.dueText("the end is in the window", Due.sources(x), "0 2000 2000 6");
    }

    private static void fullResult() {
        Due.says("length: 200 frames at most");
        SpeechCleaner x = new SpeechCleaner();
        x.append(6, 200);
        Due.due("nothing is cut", x.length(), 200);
        for (int i = 0; i < 20; i++) {
            x.mark(0, 10 * i, 10 * i + 10, 0);
        }
        x.set(PAUSE, 50);
        x.set(RHYTHM, 100);
        Due.due("20 pauses as long as their cuts", x.length(), 200);
        Due.due("the last frame", x.heard(199, 0), 2000);
        Due.due("the frame behind it", x.heard(200, 0), BAD);
        x.set(PAUSE, 9);
        Due.due("each one shorter", x.length(), 180);
    }

    private static void noise() {
        Due.says("for frames of the recording itself in a mark of the kind noise it is the level / 2, rounded down");
        SpeechCleaner x = Due.of("0123456789");
        x.mark(3, 0, 10, 0);
        Due.dueText("each level", Due.levels(x), "0 0 1 1 2 2 3 3 4 4");
        x = Due.of("99[n:99]99");
        Due.dueText("its first frame, its last one, and no other", Due.levels(x), "9 9 4 4 9 9");
        x.hold(0, true);
        Due.dueText("held", Due.levels(x), "9 9 4 4 9 9");
        Due.due("level() tells the recording's own", x.level(2), 9);
        x.unmark(0);
        Due.dueText("no noise any more", Due.levels(x), "9 9 9 9 9 9");
        x = Due.of("[n:9]");
        x.append(9, 199);
        x.mark(3, 199, 200, 0);
        Due.due("the first of 200", x.heard(0, 1), 4);
        Due.due("the last of 200", x.heard(199, 1), 4);
        x.unmark(1);
        x.unmark(0);
        Due.due("the first of 200, no noise any more", x.heard(0, 1), 9);
        Due.due("the last of 200, no noise any more", x.heard(199, 1), 9);
        x = Due.of("9[b:99][r:99][f99:99]9");
        Due.dueText("other kinds", Due.levels(x), "9 9 9 9 9 9 9 9");
        x = new SpeechCleaner();
        x.append(9, 200);
        x.mark(3, 199, 200, 0);
        Due.due("the last but one of 200", x.heard(198, 1), 9);
        Due.due("the last of 200", x.heard(199, 1), 4);
    }

    private static void noiseOfTheRecordingAlone() {
        Due.says("the frames of pauses have the level of their frame");
        SpeechCleaner x = ofWholePauses("[n:98][r:95][f0:555]");
        Due.dueText("levels", Due.levels(x), "4 4 9 5 9 5 9");
        Due.says("A seam is quiet if the levels .. (of the recording, not lowered)");
        x = Due.of("[n:33][f0:00]0", WINDOW, 1);
        Due.dueCut("noise of 3 is not quiet", x, 0, 3, 4, 0, 0, 1);
        x = Due.of("[n:11][f0:00]0", WINDOW, 1);
        Due.dueCut("noise of 1 is", x, 0, 2, 4, 1, 0, 1);
    }

    private static void heardArguments() {
        Due.says("heard: BAD if there is no such frame, or what is not 0 or 1.");
        SpeechCleaner x = new SpeechCleaner();
        Due.due("heard(0, 0) without frames", x.heard(0, 0), BAD);
        Due.due("heard(0, 1) without frames", x.heard(0, 1), BAD);
        Due.due("heard(0, 0) when all is cut", Due.of("[b:9]").heard(0, 0), BAD);
        x = Due.of("12[b:3]4");
        for (int frame : new int[] {-1, 3, 4, 1000, 2000, MIN, MAX}) {
            Due.due("heard(" + frame + ", 0)", x.heard(frame, 0), BAD);
            Due.due("heard(" + frame + ", 1)", x.heard(frame, 1), BAD);
        }
        for (int what : new int[] {-1, 2, MIN, MAX}) {
            Due.due("heard(0, " + what + ")", x.heard(0, what), BAD);
            Due.due("heard(3, " + what + ")", x.heard(3, what), BAD);
        }
        Due.due("the first frame", x.heard(0, 0), 0);
        Due.due("its level", x.heard(0, 1), 1);
        Due.due("the last frame", x.heard(2, 0), 3);
        Due.due("its level", x.heard(2, 1), 4);
    }

    private static void whereEdges() {
        Due.says("where: BAD if there is no such frame");
        SpeechCleaner x = new SpeechCleaner();
        Due.due("where(0) without frames", x.where(0), BAD);
        x = ofWholePauses("[r:7]9[f0:55]9[b:9]");
        for (int frame : new int[] {-1, 6, 1000, 2000, MIN, MAX}) {
            Due.due("where(" + frame + ")", x.where(frame), BAD);
        }
        Due.says("where: NONE if it is cut; not in pauses");
        int[] want = {0, 1, NONE, NONE, 4, NONE};
        for (int frame = 0; frame < want.length; frame++) {
            Due.due("where(" + frame + ")", x.where(frame), want[frame]);
        }
        Due.due("all is cut", Due.of("[b:9]").where(0), NONE);
        x = ofWholePauses("[f0:55]9[r:7]");
        Due.due("the room's frame itself, not where a pause took it", x.where(3), 3);
        x = new SpeechCleaner();
        x.append(5, 200);
        Due.due("where(199)", x.where(199), 199);
        Due.due("where(200)", x.where(200), BAD);
    }

    private static void clickArguments() {
        Due.says("clicks: by 0 to 9; BAD if by is not in its range.");
        for (SpeechCleaner x : new SpeechCleaner[] {new SpeechCleaner(), Due.of("0909")}) {
            for (int by : new int[] {-1, 10, MIN, MAX}) {
                Due.due("clicks(" + by + ")", x.clicks(by), BAD);
            }
        }
        Due.due("clicks(9) of the greatest steps", Due.of("0909").clicks(9), 0);
        Due.due("clicks(8) of the greatest steps", Due.of("0909").clicks(8), 3);
        Due.due("clicks(0) of equal levels", Due.of("5555").clicks(0), 0);
    }

    private static void clickDifferences() {
        Due.says("places where the levels of two successive frames differ by more than a number");
        for (int step = 1; step <= 9; step++) {
            SpeechCleaner up = Due.of("0" + step);
            SpeechCleaner down = Due.of(step + "0");
            Due.due("up by " + step, up.clicks(step - 1), 1);
            Due.due("up by not more than " + step, up.clicks(step), 0);
            Due.due("down by " + step, down.clicks(step - 1), 1);
            Due.due("down by not more than " + step, down.clicks(step), 0);
        }
        Due.due("of nothing", new SpeechCleaner().clicks(0), 0);
        Due.due("of one frame: its sides do not count", Due.of("9").clicks(0), 0);
        Due.due("of two frames", Due.of("98").clicks(0), 1);
        Due.says("clicks of the result, not of the recording");
        Due.due("a breath is dropped", Due.of("5[b:9]5").clicks(0), 0);
        Due.due("a pause is empty", ofWholePauses("5[f0:5]5").clicks(4), 2);
        Due.due("noise is lowered", Due.of("4[n:9]4").clicks(0), 0);
        SpeechCleaner x = new SpeechCleaner();
        x.babble(5, 200);
        int steps = 0;
        for (int i = 1; i < 200; i++) {
            steps += x.level(i) == x.level(i - 1) ? 0 : 1;
        }
        Due.due("of 200 frames", x.clicks(0), steps);
    }

    private static void loudnessEdges() {
        Due.says("loudness: the sum of its levels divided by its length, both as floats; 0 if it is empty.");
        Due.dueFloat("without frames", new SpeechCleaner().loudness(), 0f);
        Due.dueFloat("all is cut", Due.of("[b:9]").loudness(), 0f);
        Due.dueFloat("nothing but an empty pause", ofWholePauses("[f0:9]").loudness(), 0f);
        Due.dueFloat("of one frame", Due.of("9").loudness(), 9f);
        Due.dueFloat("a third", Due.of("001").loudness(), 1f / 3f);
        Due.dueFloat("a seventh", Due.of("0000001").loudness(), 1f / 7f);
        Due.dueFloat("noise is lowered", Due.of("[n:9]").loudness(), 4f);
        Due.dueFloat("room sound counts", ofWholePauses("[r:7][f0:0]").loudness(), 7f);
        SpeechCleaner x = new SpeechCleaner();
        x.append(9, 200);
        Due.dueFloat("of 200 frames", x.loudness(), 9f);
    }

    private static void shareEdges() {
        Due.says("share: the number of frames that are not cut, divided by the number of frames; 0 without frames.");
        Due.dueFloat("without frames", new SpeechCleaner().share(), 0f);
        Due.dueFloat("all is cut", Due.of("[b:9]").share(), 0f);
        Due.dueFloat("a pause is not the recording", ofWholePauses("[f0:9]").share(), 0f);
        Due.dueFloat("nothing is cut", Due.of("123").share(), 1f);
        Due.dueFloat("two thirds", Due.of("12[b:3]").share(), 2f / 3f);
        Due.dueFloat("a third", Due.of("1[f0:23]", WINDOW, 0).share(), 1f / 3f);
        SpeechCleaner x = new SpeechCleaner();
        x.append(9, 200);
        Due.dueFloat("all of 200", x.share(), 1f);
        x.mark(1, 0, 1, 0);
        Due.dueFloat("199 of 200", x.share(), 199f / 200f);
    }

    private static void silenceEdges() {
        Due.says("silence: the longest stretch of the result with levels of at most the zero level");
        Due.due("without frames", new SpeechCleaner().silence(), 0);
        Due.due("all is cut", Due.of("[b:0]").silence(), 0);
        Due.due("no such frame", Due.of("2222").silence(), 0);
        Due.due("one", Due.of("2122").silence(), 1);
        for (int zero = 0; zero <= 8; zero++) {
            String text = "9" + zero + zero + (zero + 1) + zero;
            Due.due(text + " with zero level " + zero, Due.of(text, ZERO, zero).silence(), 2);
        }
        Due.due("zero level 9", Due.of("9999", ZERO, 9).silence(), 4);
        Due.due("the first stretch", Due.of("1112011").silence(), 3);
        Due.due("the last stretch", Due.of("1121111").silence(), 4);
        Due.due("between", Due.of("1200021").silence(), 3);
        Due.due("two as long", Due.of("0050050").silence(), 2);
        Due.due("empty pauses", ofWholePauses("5[f0:99]0[f0:9]5").silence(), 4);
        Due.due("loud room sound", ofWholePauses("5[f0:99]0[r:9]").silence(), 1);
        Due.due("noise is lowered", Due.of("5[n:323]5").silence(), 3);
        Due.due("a breath is dropped between", Due.of("00[b:9]00", SHORTEST, 2).silence(), 4);
        SpeechCleaner x = new SpeechCleaner();
        x.append(0, 200);
        Due.due("of 200 frames", x.silence(), 200);
        x.set(ZERO, 0);
        Due.due("zero level 0", x.silence(), 200);
    }
}
