/** What the tests share: answers that are due, and texts typed as a whole. */
final class Due {
    private static int wrong = 0;

    private Due() {
    }

    static void due(String call, long got, long want) {
        if (got != want) {
            wrong++;
            System.out.println(call + " answered " + got + ", due is " + want);
        }
    }

    static void dueFloat(String call, float got, float want) {
        if (Float.compare(got, want) != 0) {
            wrong++;
            System.out.println(call + " answered " + got + ", due is " + want);
        }
    }

    static void type(SpeechCleaner x, String text) {
        for (int i = 0; i < text.length(); i++) {
            x.type(text.charAt(i));
        }
    }

    /** A new object that has read a text. */
    static SpeechCleaner of(String text) {
        SpeechCleaner x = new SpeechCleaner();
        type(x, text);
        int frames = x.read();
        if (frames < 0) {
            due("read() of " + text, frames, 0);
        }
        return x;
    }

    /** The sources of the result, with a blank between them. */
    static String sources(SpeechCleaner x) {
        return heard(x, 0);
    }

    static String levels(SpeechCleaner x) {
        return heard(x, 1);
    }

    private static String heard(SpeechCleaner x, int what) {
        StringBuilder row = new StringBuilder();
        for (int i = 0; i < x.length(); i++) {
            row.append(i == 0 ? "" : " ").append(x.heard(i, what));
        }
        return row.toString();
    }

    static void dueText(String what, String got, String want) {
        if (!got.equals(want)) {
            wrong++;
            System.out.println(what + " is " + got + ", due is " + want);
        }
    }

    /** Beginning, end, pause, roughness and mark of a cut. */
    static void dueCut(String when, SpeechCleaner x, int cut, int... want) {
        for (int what = 0; what < want.length; what++) {
            due(when + ": cut(" + cut + ", " + what + ")", x.cut(cut, what), want[what]);
        }
    }

    static void end(String test) {
        System.out.println(test + ": " + (wrong == 0 ? "all answers are as due" : wrong + " answers are not as due"));
        if (wrong != 0) {
            System.exit(1);
        }
    }
}
