import java.util.Random;

/** Promises 1 to 27: many runs of calls, each answer compared with that of the slow model. */
public final class ModelTest {
    private static final int RUNS = 400;
    private static final int CALLS = 512;
    private static final String PIECES = "0011259[]:fbrn";

    private final SpeechCleaner x = new SpeechCleaner();
    private final Model model = new Model();
    private final Random random;
    private final String run;

    private ModelTest(int seed) {
        random = new Random(seed);
        run = "run " + seed + ", ";
    }

    public static void main(String[] args) {
        for (int seed = 0; seed < RUNS; seed++) {
            ModelTest test = new ModelTest(seed);
            int calls = 0;
            while (calls < CALLS) {
                calls += test.step(calls);
            }
        }
        Due.end("ModelTest");
    }

    /** Makes one call, or types a text and reads it; answers how many calls were made. */
    private int step(int calls) {
        int which = random.nextInt(40);
        if (which < 2) {
            return typeText(CALLS - calls);
        }
        if (which < 18) {
            change(random.nextInt(16));
        } else if (which < 24) {
            Due.due(run + "fingerprint()", x.fingerprint(), model.fingerprint());
        } else {
            ask(random.nextInt(16));
        }
        return 1;
    }

    private int typeText(int most) {
        String text = random.nextInt(4) == 0 ? wildText() : goodText();
        int typed = 0;
        while (typed < text.length() && typed + 1 < most) {
            int c = text.charAt(typed);
            Due.due(run + "type(" + c + ")", x.type(c), model.type(c));
            typed++;
        }
        Due.due(run + "read() of " + text, x.read(), model.read());
        return typed + 1;
    }

    private String wildText() {
        StringBuilder text = new StringBuilder();
        for (int i = random.nextInt(12); i > 0; i--) {
            text.append(PIECES.charAt(random.nextInt(PIECES.length())));
        }
        return text.toString();
    }

    private String goodText() {
        StringBuilder text = new StringBuilder();
        boolean many = random.nextInt(5) == 0;
        for (int i = many ? 15 + random.nextInt(7) : random.nextInt(8); i > 0; i--) {
            text.append(many ? "" : digits(0, 6)).append('[');
            int kind = random.nextInt(5);
            text.append(kind > 3 ? "f" + random.nextInt(130) : kind > 2 ? "f7" : String.valueOf("brn".charAt(kind)));
            text.append(':').append(digits(1, many ? 2 : 7)).append(']');
        }
        if (random.nextInt(4) == 0 && text.length() > 0) {
            text.setCharAt(random.nextInt(text.length()), PIECES.charAt(random.nextInt(PIECES.length())));
        }
        return text.append(many ? "" : digits(0, 5)).toString();
    }

    private String digits(int least, int most) {
        StringBuilder row = new StringBuilder();
        for (int i = least + random.nextInt(most - least + 1); i > 0; i--) {
            row.append("0000115379".charAt(random.nextInt(10)));
        }
        return row.toString();
    }

    private void change(int which) {
        switch (which) {
            case 0: {
                int level = number(9);
                int many = 1 + number(random.nextInt(3) == 0 ? 200 : 20);
                Due.due(run + "append(" + level + ", " + many + ")", x.append(level, many), model.append(level, many));
                break;
            }
            case 1: {
                int seed = random.nextInt();
                int many = number(random.nextInt(3) == 0 ? 201 : 30);
                Due.due(run + "babble(" + seed + ", " + many + ")", x.babble(seed, many), model.babble(seed, many));
                break;
            }
            case 2:
            case 3:
            case 4:
            case 5:
            case 6:
            case 7:
                addMark();
                break;
            case 8: {
                int mark = number(x.setting(8));
                Due.due(run + "unmark(" + mark + ")", x.unmark(mark), model.unmark(mark));
                break;
            }
            case 9: {
                int mark = number(x.setting(8));
                boolean on = random.nextBoolean();
                Due.due(run + "hold(" + mark + ", " + on + ")", x.hold(mark, on), model.hold(mark, on));
                break;
            }
            case 10:
            case 11:
            case 12: {
                int setting = number(6);
                int value = number(new int[] {100, 3, 20, 50, 100, 12, 12}[Math.floorMod(setting, 7)]);
                Due.due(run + "set(" + setting + ", " + value + ")", x.set(setting, value), model.set(setting, value));
                break;
            }
            case 13:
                Due.due(run + "clear()", x.clear(), model.clear());
                break;
            default:
                Due.due(run + "undo()", x.undo(), model.undo());
                break;
        }
    }

    private void addMark() {
        int kind = random.nextInt(3) == 0 ? 0 : number(3);
        int from = number(x.setting(7));
        int to = from + number(8);
        int doubt = random.nextInt(2) == 0 ? number(100) : random.nextInt(30);
        Due.due(run + "mark(" + kind + ", " + from + ", " + to + ", " + doubt + ")",
            x.mark(kind, from, to, doubt), model.mark(kind, from, to, doubt));
    }

    private void ask(int which) {
        int a = number(which == 0 ? 8 : which == 9 || which == 12 ? 10 : which < 7 ? x.setting(8) : x.setting(7));
        int b = number(which == 1 || which == 4 ? 5 : 1);
        String with = "(" + a + ", " + b + ")";
        switch (which) {
            case 0:
                Due.due(run + "setting" + with, x.setting(a), model.setting(a));
                break;
            case 1:
                Due.due(run + "about" + with, x.about(a, b), model.about(a, b));
                break;
            case 2:
                Due.due(run + "level" + with, x.level(a), model.level(a));
                break;
            case 3:
                Due.due(run + "cuts()", x.cuts(), model.cuts());
                break;
            case 4:
                Due.due(run + "cut" + with, x.cut(a, b), model.cut(a, b));
                break;
            case 5:
                Due.due(run + "sum" + with, x.sum(a), model.sum(a));
                break;
            case 6:
                Due.due(run + "bestWindow()", x.bestWindow(), model.bestWindow());
                break;
            case 7:
                Due.due(run + "greatestDoubt" + with, x.greatestDoubt(a), model.greatestDoubt(a));
                break;
            case 8:
                Due.due(run + "length()", x.length(), model.length());
                break;
            case 9:
                Due.due(run + "clicks" + with, x.clicks(a), model.clicks(a));
                break;
            case 10:
                Due.due(run + "heard" + with, x.heard(a, b), model.heard(a, b));
                break;
            case 11:
                Due.due(run + "where" + with, x.where(a), model.where(a));
                break;
            case 12:
                Due.dueFloat(run + "loudness()", x.loudness(), model.loudness());
                break;
            case 13:
                Due.dueFloat(run + "share()", x.share(), model.share());
                break;
            default:
                Due.due(run + "silence()", x.silence(), model.silence());
                break;
        }
    }

    /** Mostly from 0 to most, now and then just outside of it or far away. */
    private int number(int most) {
        switch (random.nextInt(24)) {
            case 0:
                return -1;
            case 1:
                return most + 1;
            case 2:
                return random.nextInt();
            default:
                return random.nextInt(most + 1);
        }
    }
}
