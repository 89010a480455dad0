/** Promises 26 and 27: the history and the fingerprint. */
public final class HistoryTest {
    public static void main(String[] args) {
        fourStates();
        allActs();
        noActs();
        fingerprints();
        Due.end("HistoryTest");
    }

    private static void fourStates() {
        SpeechCleaner x = new SpeechCleaner();
        long[] prints = new long[7];
        prints[0] = x.fingerprint();
        for (int i = 1; i <= 6; i++) {
            x.append(i, i);
            prints[i] = x.fingerprint();
        }
        for (int i = 5; i >= 2; i--) {
            Due.due("undo()", x.undo(), i - 2);
            Due.due("the state before", x.fingerprint(), prints[i]);
        }
        Due.due("the oldest two are dropped", x.undo(), SpeechCleaner.NONE);
        Due.due("NONE changes nothing", x.fingerprint(), prints[2]);
        x.append(9, 9);
        Due.due("an act after it", x.undo(), 0);
        Due.due("the state before it", x.fingerprint(), prints[2]);
    }

    private static void allActs() {
        for (int act = 0; act < 7; act++) {
            SpeechCleaner x = Due.of("12[f7:3][b:45]");
            x.hold(0, true);
            Due.type(x, "7");
            long before = x.fingerprint();
            Due.due("act " + act + " answers no error", doAct(x, act) < 0 ? 1 : 0, 0);
            Due.due("act " + act + " changes something", x.fingerprint() == before ? 1 : 0, 0);
            int buffered = x.clear();
            Due.type(x, "8899");
            Due.due("act " + act + " undone", x.undo(), 2);
            Due.due("act " + act + ": the state before", x.fingerprint(), before);
            Due.due("act " + act + ": only read() empties the buffer", buffered, act == 0 ? 0 : 1);
            Due.due("undo() leaves the buffer", x.clear(), 4);
        }
    }

    private static int doAct(SpeechCleaner x, int act) {
        switch (act) {
            case 0:
                return x.read();
            case 1:
                return x.append(5, 1);
            case 2:
                return x.babble(5, 1);
            case 3:
                return x.mark(2, 0, 1, 0);
            case 4:
                return x.unmark(0);
            case 5:
                return x.hold(0, false);
            default:
                return x.set(0, 5);
        }
    }

    private static void noActs() {
        SpeechCleaner x = Due.of("12[f7:3][b:45]");
        x.hold(0, false);
        x.set(0, 30);
        Due.due("acts that leave all as it was count", x.undo(), 2);
        x = Due.of("12[f7:3][b:45]");
        x.type('x');
        x.read();
        x.clear();
        x.append(10, 1);
        x.babble(1, 200);
        x.mark(0, 2, 3, 0);
        x.unmark(2);
        x.hold(2, true);
        x.set(0, 101);
        x.bestWindow();
        x.greatestDoubt(0);
        x.heard(0, 0);
        x.fingerprint();
        Due.due("errors and questions add nothing", x.undo(), 0);
        Due.due("only read() is undone", x.setting(7), 0);
    }

    private static void fingerprints() {
        Due.due("fingerprint() of nothing", new SpeechCleaner().fingerprint(),
            after(30, 1, 5, 4, 50, 6, 2, 0, 0, 0, 0));
        SpeechCleaner x = Due.of("0[f5:9]0[r:2]");
        x.set(4, 100);
        x.set(3, 1);
        x.hold(1, true);
        Due.due("fingerprint()", x.fingerprint(), after(
            30, 1, 5, 1, 100, 6, 2, 4, 2,
            0, 9, 0, 2,
            0, 1, 2, 5, 0, 0,
            2, 3, 4, 0, 1, -9,
            1,
            0, 2, 1, 1, 0,
            3,
            1003, 2, 2, 0, 3, 2));
    }

    private static long after(long... numbers) {
        long print = 151;
        for (long number : numbers) {
            print = 31 * print + number;
        }
        return print;
    }
}
