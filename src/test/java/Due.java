/** What the tests share: answers that are due, and texts typed as a whole. */
final class Due {
    private static int wrong = 0;
    private static String sentence = "";

    private Due() {
    }

    /** The words of the document that the next answers are due to. */
    static void says(String words) {
        sentence = words;
    }

    static void due(String call, long got, long want) {
        if (got != want) {
            tell(call + " answered " + got + ", due is " + want);
        }
    }

    static void dueFloat(String call, float got, float want) {
        if (Float.compare(got, want) != 0) {
            tell(call + " answered " + got + ", due is " + want);
        }
    }

    private static void tell(String fault) {
        wrong++;
        System.out.println(fault + (sentence.isEmpty() ? "" : " [" + sentence + "]"));
    }

    static void type(SpeechCleaner x, String text) {
        for (int i = 0; i < text.length(); i++) {
            x.type(text.charAt(i));
        }
    }

    /** A new object that has read a text, and then has settings: number, value, number, value, .. */
    static SpeechCleaner of(String text, int... settings) {
        SpeechCleaner x = new SpeechCleaner();
        type(x, text);
        int frames = x.read();
        if (frames < 0) {
            due("read() of " + text, frames, 0);
        }
        for (int i = 0; i + 1 < settings.length; i += 2) {
            x.set(settings[i], settings[i + 1]);
        }
        return x;
    }

    /** The sources of the result, with a blank between them. */
    static String sources(SpeechCleaner x) {
        return heard(x, 0);
    }

    static String levels(SpeechCleaner x) {
        return heard(x, 1);
    }

    private static String heard(SpeechCleaner x, int what) {
        StringBuilder row = new StringBuilder();
        for (int i = 0; i < x.length(); i++) {
            row.append(i == 0 ? "" : " ").append(x.heard(i, what));
        }
        return row.toString();
    }

    static void dueText(String what, String got, String want) {
        if (!got.equals(want)) {
            tell(what + " is " + got + ", due is " + want);
        }
    }

    /** Beginning, end, pause, roughness and mark of a cut. */
    static void dueCut(String when, SpeechCleaner x, int cut, int... want) {
        for (int what = 0; what < want.length; what++) {
            due(when + ": cut(" + cut + ", " + what + ")", x.cut(cut, what), want[what]);
        }
    }

    static void end(String test) {
        System.out.println(test + ": " + (wrong == 0 ? "all answers are as due" : wrong + " answers are not as due"));
        if (wrong != 0) {
            System.exit(1);
        }
    }
}
