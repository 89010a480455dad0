/** The boundary cases that the document names for history, errors and the fingerprint, sentence by sentence. */
public final class HistoryEdgesTest {
    private static final int BAD = SpeechCleaner.BAD;
    private static final int STATE = SpeechCleaner.STATE;
    private static final int FULL = SpeechCleaner.FULL;
    private static final int NONE = SpeechCleaner.NONE;

    public static void main(String[] args) {
        emptyHistory();
        upToFourStates();
        theOldestIsDropped();
        manyActs();
        actsWhenFull();
        actsThatLeaveAll();
        errorsAddNothing();
        errorsDropNothing();
        questionsAddNothing();
        theBufferIsNotKept();
        allOfAStateIsKept();
        eachSettingIsKept();
        aFullStateIsKept();
        undoIsNoAct();
        fingerprintOfNothing();
        fingerprintWraps();
        fingerprintOfNone();
        Due.end("HistoryEdgesTest");
    }

    private static void emptyHistory() {
        Due.says("undo: NONE if it has none.");
        SpeechCleaner x = new SpeechCleaner();
        long before = x.fingerprint();
        Due.due("undo() of a new object", x.undo(), NONE);
        Due.due("undo() again", x.undo(), NONE);
        Due.due("nothing changes", x.fingerprint(), before);
        x.append(1, 1);
        Due.due("undo() of one act", x.undo(), 0);
        Due.due("the state before", x.fingerprint(), before);
        Due.due("undo() behind it", x.undo(), NONE);
    }

    private static void upToFourStates() {
        Due.says("undo: Returns how many states the history still has");
        for (int acts = 1; acts <= 4; acts++) {
            SpeechCleaner x = new SpeechCleaner();
            for (int i = 0; i < acts; i++) {
                x.append(i, 1);
            }
            for (int left = acts - 1; left >= 0; left--) {
                Due.due("undo() of " + acts, x.undo(), left);
                Due.due("frames", x.setting(7), left);
            }
            Due.due("undo() behind all", x.undo(), NONE);
        }
    }

    private static void theOldestIsDropped() {
        Due.says("if there are 4 already, the oldest one is dropped");
        SpeechCleaner x = new SpeechCleaner();
        for (int i = 1; i <= 5; i++) {
            x.append(i, 1);
        }
        for (int left = 3; left >= 0; left--) {
            Due.due("undo()", x.undo(), left);
            Due.due("frames", x.setting(7), left + 1);
        }
        Due.due("the state without frames is dropped", x.undo(), NONE);
        Due.due("frames", x.setting(7), 1);
        Due.says("undo() removes the latest one: there is room for it again");
        x.append(7, 3);
        x.append(8, 3);
        Due.due("undo()", x.undo(), 1);
        x.append(9, 4);
        Due.due("frames", x.setting(7), 8);
        Due.due("undo()", x.undo(), 1);
        Due.due("frames", x.setting(7), 4);
        Due.due("undo()", x.undo(), 0);
        Due.due("frames", x.setting(7), 1);
    }

    private static void manyActs() {
        Due.says("A history of at most 4 states is kept");
        SpeechCleaner x = new SpeechCleaner();
        for (int i = 1; i <= 101; i++) {
            x.set(4, i % 101);
        }
        for (int left = 3; left >= 0; left--) {
            Due.due("undo()", x.undo(), left);
            Due.due("setting(4)", x.setting(4), 97 + left);
        }
        Due.due("undo()", x.undo(), NONE);
        Due.due("setting(4)", x.setting(4), 97);
    }

    private static int doAct(SpeechCleaner x, int act) {
        switch (act) {
            case 0:
                return x.read();
            case 1:
                return x.append(5, 1);
            case 2:
                return x.babble(5, 1);
            case 3:
                return x.mark(2, 0, 1, 0);
            case 4:
                return x.unmark(0);
            case 5:
                return x.hold(0, true);
            default:
                return x.set(0, 5);
        }
    }

    private static void actsWhenFull() {
        Due.says("Each call described as an act that returns no error adds the state before it");
        for (int act = 0; act < 7; act++) {
            SpeechCleaner x = Due.of("12[f7:3][b:45]");
            for (int i = 0; i < 4; i++) {
                x.set(1, i + 2);
            }
            long before = x.fingerprint();
            Due.due("act " + act + " answers no error", doAct(x, act) < 0 ? 1 : 0, 0);
            Due.due("act " + act + " changes something", x.fingerprint() == before ? 1 : 0, 0);
            Due.due("undo() of act " + act, x.undo(), 3);
            Due.due("the state before act " + act, x.fingerprint(), before);
            Due.due("undo()", x.undo(), 2);
            Due.due("undo()", x.undo(), 1);
            Due.due("undo()", x.undo(), 0);
            Due.due("the oldest that is left", x.setting(1), 2);
            Due.due("undo()", x.undo(), NONE);
        }
    }

    private static void actsThatLeaveAll() {
        Due.says("also if it leaves all as it was");
        SpeechCleaner x = new SpeechCleaner();
        Due.due("read() of nothing into nothing", x.read(), 0);
        Due.due("set(0, 30) to 30", x.set(0, 30), 30);
        Due.due("undo()", x.undo(), 1);
        Due.due("undo()", x.undo(), 0);
        x = Due.of("[f1:1]");
        x.hold(0, false);
        Due.due("hold(0, false) of one not held", x.undo(), 1);
        x.hold(0, true);
        x.hold(0, true);
        Due.due("hold(0, true) of one held", x.undo(), 2);
        Due.due("it is still held", x.about(0, 4), 1);
        Due.due("undo()", x.undo(), 1);
        Due.due("it is not held", x.about(0, 4), 0);
        x = Due.of("12");
        Due.type(x, "12");
        x.read();
        Due.due("read() of the same", x.undo(), 1);
        Due.due("frames", x.setting(7), 2);
    }

    /** 200 frames, 20 marks, a text with an error in a full buffer, and a full history. */
    private static SpeechCleaner ofFull() {
        SpeechCleaner x = Due.of("[b:1]".repeat(20));
        x.append(5, 180);
        x.set(0, 11);
        x.set(0, 12);
        x.set(0, 13);
        Due.type(x, "x".repeat(120));
        return x;
    }

    private static int doError(SpeechCleaner x, int error) {
        int[] answers = {BAD, FULL, -100, BAD, FULL, BAD, FULL, BAD, STATE, FULL, BAD, BAD, BAD, BAD};
        int got;
        switch (error) {
            case 0: got = x.type(31); break;
            case 1: got = x.type(32); break;
            case 2: got = x.read(); break;
            case 3: got = x.append(10, 1); break;
            case 4: got = x.append(1, 1); break;
            case 5: got = x.babble(1, 0); break;
            case 6: got = x.babble(1, 1); break;
            case 7: got = x.mark(0, 30, 30, 0); break;
            case 8: got = x.mark(0, 19, 21, 0); break;
            case 9: got = x.mark(0, 20, 21, 0); break;
            case 10: got = x.unmark(20); break;
            case 11: got = x.hold(20, true); break;
            case 12: got = x.set(7, 0); break;
            default: got = x.set(1, 10); break;
        }
        Due.due("error " + error, got, answers[error]);
        return got;
    }

    private static void errorsAddNothing() {
        Due.says("A call that returns an error changes nothing.");
        for (int error = 0; error < 14; error++) {
            SpeechCleaner x = ofFull();
            long before = x.fingerprint();
            doError(x, error);
            Due.due("error " + error + ": fingerprint()", x.fingerprint(), before);
            Due.due("error " + error + ": the buffer", x.clear(), 120);
            Due.due("error " + error + ": undo()", x.undo(), 3);
            Due.due("error " + error + ": the state before", x.setting(0), 12);
        }
    }

    private static void errorsDropNothing() {
        Due.says("A call that returns an error changes nothing: the oldest state stays");
        SpeechCleaner x = ofFull();
        for (int error = 0; error < 14; error++) {
            doError(x, error);
        }
        for (int left = 3; left >= 0; left--) {
            Due.due("undo()", x.undo(), left);
        }
        Due.due("the oldest state has the 20 frames that were read", x.setting(7), 20);
        Due.due("undo()", x.undo(), NONE);
    }

    private static void questionsAddNothing() {
        Due.says("Each call described as an act: others add nothing");
        SpeechCleaner x = Due.of("12[f7:3][b:45]");
        x.type('5');
        x.clear();
        x.setting(0);
        x.about(0, 5);
        x.level(0);
        x.cuts();
        x.cut(0, 0);
        x.sum(0);
        x.bestWindow();
        x.greatestDoubt(0);
        x.length();
        x.heard(0, 0);
        x.where(0);
        x.clicks(0);
        x.loudness();
        x.share();
        x.silence();
        x.fingerprint();
        Due.due("undo() of read() alone", x.undo(), 0);
        Due.due("frames", x.setting(7), 0);
    }

    private static void theBufferIsNotKept() {
        Due.says("(frames, marks, settings; not the buffer)");
        SpeechCleaner x = new SpeechCleaner();
        Due.type(x, "123");
        x.append(5, 1);
        x.type('4');
        Due.due("undo()", x.undo(), 0);
        Due.due("the buffer goes on", x.type('5'), 5);
        Due.due("read()", x.read(), 5);
        Due.due("the last digit", x.level(4), 5);
        Due.due("undo() of read()", x.undo(), 0);
        Due.due("the text does not come back", x.clear(), 0);
    }

    private static void allOfAStateIsKept() {
        Due.says("undo() removes the latest one and restores it. (frames, marks, settings)");
        SpeechCleaner x = Due.of("00[f30:9]0[r:12][b:9][n:87]");
        x.hold(1, true);
        int[] values = {40, 2, 6, 7, 80, 9, 1};
        for (int i = 0; i < values.length; i++) {
            x.set(i, values[i]);
        }
        long before = x.fingerprint();
        Due.type(x, "777[b:77]");
        x.read();
        x.append(3, 100);
        x.mark(0, 50, 60, 0);
        x.hold(0, true);
        for (int left = 3; left >= 0; left--) {
            Due.due("undo()", x.undo(), left);
        }
        Due.due("all as before", x.fingerprint(), before);
        for (int i = 0; i < values.length; i++) {
            Due.due("setting(" + i + ")", x.setting(i), values[i]);
        }
        Due.due("frames", x.setting(7), 9);
        Due.due("marks", x.setting(8), 4);
        Due.due("the held mark", x.about(1, 4), 1);
        Due.due("level(8)", x.level(8), 7);
        Due.due("level(9)", x.level(9), BAD);
    }

    private static void eachSettingIsKept() {
        Due.says("undo() restores it. (each of the settings)");
        int[] initial = {30, 1, 5, 4, 50, 6, 2};
        for (int i = 0; i < initial.length; i++) {
            SpeechCleaner x = new SpeechCleaner();
            x.set(i, 7);
            x.set(i, 0);
            Due.due("undo()", x.undo(), 1);
            Due.due("setting(" + i + ")", x.setting(i), 7);
            Due.due("undo()", x.undo(), 0);
            Due.due("setting(" + i + ")", x.setting(i), initial[i]);
        }
    }

    private static void aFullStateIsKept() {
        Due.says("undo() restores it. (all of 200 frames and 20 marks)");
        SpeechCleaner x = new SpeechCleaner();
        x.append(5, 200);
        for (int i = 0; i < 20; i++) {
            x.mark(i % 4, 10 * i, 10 * i + 10, i);
        }
        x.hold(19, true);
        long before = x.fingerprint();
        x.read();
        x.append(6, 200);
        x.mark(0, 0, 200, 100);
        x.hold(0, true);
        for (int left = 3; left >= 0; left--) {
            Due.due("undo()", x.undo(), left);
        }
        Due.due("all as before", x.fingerprint(), before);
        for (int frame = 0; frame < 200; frame++) {
            Due.due("level(" + frame + ")", x.level(frame), 5);
        }
        for (int mark = 0; mark < 20; mark++) {
            Due.due("about(" + mark + ", 0)", x.about(mark, 0), mark % 4);
            Due.due("about(" + mark + ", 1)", x.about(mark, 1), 10 * mark);
            Due.due("about(" + mark + ", 2)", x.about(mark, 2), 10 * mark + 10);
            Due.due("about(" + mark + ", 3)", x.about(mark, 3), mark);
            Due.due("about(" + mark + ", 4)", x.about(mark, 4), mark == 19 ? 1 : 0);
        }
    }

    private static void undoIsNoAct() {
        Due.says("Each call described as an act: undo() is none");
        SpeechCleaner x = new SpeechCleaner();
        x.append(1, 1);
        x.append(2, 1);
        x.undo();
        Due.due("undo() goes on backwards", x.undo(), 0);
        Due.due("frames", x.setting(7), 0);
        Due.due("and does not come back", x.undo(), NONE);
        Due.due("frames", x.setting(7), 0);
    }

    private static void fingerprintOfNothing() {
        Due.says("It starts as 151");
        long print = 151;
        for (int number : new int[] {30, 1, 5, 4, 50, 6, 2, 0, 0, 0, 0}) {
            print = print * 31 + number;
        }
        Due.due("fingerprint() of a new object", new SpeechCleaner().fingerprint(), print);
    }

    /** The fingerprint, told from the other calls, with many calls: on an object of its own for each part. */
    private static java.math.BigInteger told(Maker maker) {
        java.math.BigInteger print = java.math.BigInteger.valueOf(151);
        SpeechCleaner x = maker.make();
        int frames = x.setting(7);
        int marks = x.setting(8);
        for (int what = 0; what <= 8; what++) {
            print = next(print, x.setting(what));
        }
        for (int frame = 0; frame < frames; frame++) {
            print = next(print, x.level(frame));
        }
        x = maker.make();
        for (int mark = 0; mark < marks; mark++) {
            for (int what = 0; what <= 5; what++) {
                print = next(print, x.about(mark, what));
            }
        }
        int cuts = x.cuts();
        print = next(print, cuts);
        for (int cut = 0; cut < cuts; cut++) {
            for (int what = 0; what <= 4; what++) {
                print = next(print, x.cut(cut, what));
            }
        }
        x = maker.make();
        int length = x.length();
        print = next(print, length);
        for (int frame = 0; frame < length; frame++) {
            print = next(print, x.heard(frame, 0));
            print = next(print, x.heard(frame, 1));
        }
        return print;
    }

    private static java.math.BigInteger next(java.math.BigInteger print, int number) {
        return print.multiply(java.math.BigInteger.valueOf(31)).add(java.math.BigInteger.valueOf(number));
    }

    private interface Maker {
        SpeechCleaner make();
    }

    private static void fingerprintWraps() {
        Due.says("in long arithmetic with overflow");
        Maker full = () -> {
            SpeechCleaner x = new SpeechCleaner();
            x.babble(-77, 200);
            for (int i = 0; i < 20; i++) {
                x.mark(i % 4, 10 * i, 10 * i + 3 + i % 7, 5 * i);
            }
            x.hold(4, true);
            return x;
        };
        Due.due("fingerprint() of 200 frames and 20 marks", full.make().fingerprint(), told(full).longValue());
        Maker few = () -> Due.of("[b:9]00[f5:9]0[r:2]");
        Due.due("fingerprint() of a few", few.make().fingerprint(), told(few).longValue());
    }

    private static void fingerprintOfNone() {
        Due.says("for each mark about() 0 to 5 (NONE is a number too)");
        long print = 151;
        int[] numbers = {30, 1, 5, 4, 50, 6, 2, 1, 1, 7, 2, 0, 1, 0, 0, -9, 0, 1, 0, 7};
        for (int number : numbers) {
            print = print * 31 + number;
        }
        Due.due("fingerprint() of a room alone", Due.of("[r:7]").fingerprint(), print);
    }
}
