/** Promises 19 to 25: what is heard. */
public final class ResultTest {
    public static void main(String[] args) {
        emptyPauses();
        roomSound();
        noise();
        wrongNumbers();
        places();
        clicks();
        means();
        silences();
        Due.end("ResultTest");
    }

    private static void emptyPauses() {
        SpeechCleaner x = Due.of("500[f0:8888]006");
        Due.due("length()", x.length(), 7);
        Due.dueText("sources", Due.sources(x), "0 1 2000 2000 2000 8 9");
        Due.dueText("levels", Due.levels(x), "5 0 0 0 0 0 6");
        x.hold(0, true);
        Due.dueText("sources without cuts", Due.sources(x), "0 1 2 3 4 5 6 7 8 9");
        x = Due.of("[b:7]");
        Due.due("all is cut", x.length(), 0);
        Due.due("heard(0, 0) of nothing", x.heard(0, 0), SpeechCleaner.BAD);
    }

    private static void roomSound() {
        SpeechCleaner x = Due.of("[r:12]0[f0:9999]00[r:3]00[f0:9999]0");
        Due.due("pauses", x.cut(0, 2) + 10 * x.cut(1, 2), 32);
        Due.dueText("the second pause goes on where the first one stopped", Due.sources(x),
            "0 1 2 1000 1001 8 9 10 1009 1000 1001");
        x.set(3, 2);
        Due.dueText("shorter pauses", Due.sources(x), "0 1 2 1000 1001 8 9 10 1009 1000");
        Due.dueText("their levels", Due.levels(x), "1 2 0 1 2 0 3 0 3 1");
        x.hold(0, true);
        Due.dueText("held room sounds, too", Due.sources(x), "0 1 2 1000 1001 8 9 10 1009 1000");
        x.unmark(2);
        x.unmark(0);
        Due.dueText("without room sound", Due.sources(x), "2000 2000 8 9 10 2000 2000");
    }

    private static void noise() {
        SpeechCleaner x = Due.of("9[n:0123456789]9");
        Due.dueText("halved", Due.levels(x), "9 0 0 1 1 2 2 3 3 4 4 9");
        Due.dueText("sources", Due.sources(x), "0 1 2 3 4 5 6 7 8 9 10 11");
        Due.due("level() is not halved", x.level(10), 9);
        x.hold(0, true);
        Due.dueText("held noise, too", Due.levels(x), "9 0 0 1 1 2 2 3 3 4 4 9");
        x.unmark(0);
        Due.dueText("no noise any more", Due.levels(x), "9 0 1 2 3 4 5 6 7 8 9 9");
    }

    private static void wrongNumbers() {
        SpeechCleaner x = Due.of("12[b:3]4");
        Due.due("heard(2, 0)", x.heard(2, 0), 3);
        Due.due("heard(2, 1)", x.heard(2, 1), 4);
        Due.due("heard(3, 0)", x.heard(3, 0), SpeechCleaner.BAD);
        Due.due("heard(-1, 0)", x.heard(-1, 0), SpeechCleaner.BAD);
        Due.due("heard(0, 2)", x.heard(0, 2), SpeechCleaner.BAD);
        Due.due("heard(0, -1)", x.heard(0, -1), SpeechCleaner.BAD);
    }

    private static void places() {
        SpeechCleaner x = Due.of("[r:0]0[f0:99]005[b:6]7");
        int[] want = {0, SpeechCleaner.NONE, SpeechCleaner.NONE, SpeechCleaner.NONE, SpeechCleaner.NONE, 3, 4,
            SpeechCleaner.NONE, 5};
        for (int i = 0; i < want.length; i++) {
            Due.due("where(" + i + ")", x.where(i), want[i]);
        }
        Due.due("where(-1)", x.where(-1), SpeechCleaner.BAD);
        Due.due("where(9)", x.where(9), SpeechCleaner.BAD);
        Due.due("where(1000)", x.where(1000), SpeechCleaner.BAD);
    }

    private static void clicks() {
        SpeechCleaner x = Due.of("0909[b:7]5678[n:82]");
        int[] want = {9, 6, 6, 5, 3, 3, 3, 3, 3, 0};
        for (int by = 0; by < want.length; by++) {
            Due.due("clicks(" + by + ")", x.clicks(by), want[by]);
        }
        Due.due("clicks(-1)", x.clicks(-1), SpeechCleaner.BAD);
        Due.due("clicks(10)", x.clicks(10), SpeechCleaner.BAD);
        Due.due("clicks(0) of one frame", Due.of("9").clicks(0), 0);
        Due.due("clicks(0) of nothing", new SpeechCleaner().clicks(0), 0);
        Due.due("clicks(0) across a cut", Due.of("3[b:7]3").clicks(0), 0);
    }

    private static void means() {
        SpeechCleaner x = Due.of("125[b:9]3[n:9]");
        Due.dueFloat("loudness()", x.loudness(), 15f / 5f);
        Due.dueFloat("share()", x.share(), 5f / 6f);
        x = Due.of("500[f0:8888]006");
        Due.dueFloat("loudness() with pauses", x.loudness(), 11f / 7f);
        Due.dueFloat("share() without pauses", x.share(), 4f / 10f);
        x = Due.of("[b:9]");
        Due.dueFloat("loudness() when all is cut", x.loudness(), 0f);
        Due.dueFloat("share() when all is cut", x.share(), 0f);
        x = new SpeechCleaner();
        Due.dueFloat("loudness() of nothing", x.loudness(), 0f);
        Due.dueFloat("share() of nothing", x.share(), 0f);
        x.append(9, 200);
        Due.dueFloat("share() of all", x.share(), 1f);
    }

    private static void silences() {
        SpeechCleaner x = Due.of("01120005[n:3]1[b:9]1125");
        Due.due("the zero level is silence, a breath dropped and noise lowered", x.silence(), 4);
        x.set(1, 0);
        Due.due("zero level 0", x.silence(), 3);
        x.set(1, 5);
        Due.due("zero level 5", x.silence(), x.length());
        Due.due("the last stretch counts", Due.of("9111").silence(), 3);
        Due.due("no silence", Due.of("999").silence(), 0);
        Due.due("silence() of nothing", new SpeechCleaner().silence(), 0);
    }
}
