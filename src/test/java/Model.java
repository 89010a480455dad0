import java.util.ArrayDeque;
import java.util.ArrayList;
import java.util.Deque;
import java.util.List;
import java.util.regex.Pattern;

/**
 * The document once more, in lists and as literally as it goes: slow, and by other ways than the
 * class (all seams are listed, each text is completed by force), so that the same slip is unlikely.
 */
final class Model {
    private static final int BAD = -1;
    private static final int STATE = -2;
    private static final int FULL = -3;
    private static final int NONE = -9;
    private static final int[] GREATEST = {100, 9, 20, 50, 100, 50, 50};
    private static final Pattern TEXT = Pattern.compile("[0-9]*(\\[(f[0-9]{1,3}|[brn]):[0-9]+\\][0-9]*){0,20}");
    private static final String[] COMPLETIONS = {"", "f1:1]", "1:1]", ":1]", "1]", "]"};

    private record Mark(int kind, int first, int end, int doubt, boolean held) {
    }

    private record Cut(int begin, int end, int pause, boolean rough, int mark) {
        int frames() {
            return end - begin;
        }
    }

    private record Heard(int source, int level) {
    }

    private record State(List<Integer> levels, List<Mark> marks, List<Integer> settings) {
        State copy() {
            return new State(new ArrayList<>(levels), new ArrayList<>(marks), new ArrayList<>(settings));
        }
    }

    private String buffer = "";
    private State now = new State(new ArrayList<>(), new ArrayList<>(),
        new ArrayList<>(List.of(30, 1, 5, 4, 50, 6, 2)));
    private final Deque<State> history = new ArrayDeque<>();

    private void act() {
        history.addLast(now.copy());
        if (history.size() > 4) {
            history.removeFirst();
        }
    }

    int type(int c) {
        if (c < 32 || c > 126) {
            return BAD;
        }
        if (buffer.length() == 120) {
            return FULL;
        }
        buffer += (char) c;
        return buffer.length();
    }

    int clear() {
        int had = buffer.length();
        buffer = "";
        return had;
    }

    int read() {
        int place = errorPlace();
        if (place >= 0) {
            return -100 - place;
        }
        act();
        now.levels().clear();
        now.marks().clear();
        String rest = buffer;
        while (!rest.isEmpty()) {
            if (rest.charAt(0) != '[') {
                now.levels().add(rest.charAt(0) - '0');
                rest = rest.substring(1);
                continue;
            }
            int colon = rest.indexOf(':');
            int bracket = rest.indexOf(']');
            int doubt = colon > 2 ? Integer.parseInt(rest.substring(2, colon)) : 0;
            int from = now.levels().size();
            for (char c : rest.substring(colon + 1, bracket).toCharArray()) {
                now.levels().add(c - '0');
            }
            now.marks().add(new Mark("fbrn".indexOf(rest.charAt(1)), from, now.levels().size(), doubt, false));
            rest = rest.substring(bracket + 1);
        }
        buffer = "";
        return now.levels().size();
    }

    private int errorPlace() {
        for (int i = 1; i <= buffer.length(); i++) {
            if (!canGoOn(buffer.substring(0, i))) {
                return i - 1;
            }
        }
        if (!TEXT.matcher(buffer).matches()) {
            return buffer.length();
        }
        for (int i = 0; i < buffer.length(); i++) {
            if (buffer.charAt(i) == 'f'
                && Integer.parseInt(buffer.substring(i + 1, buffer.indexOf(':', i))) > 100) {
                return i + 1;
            }
        }
        return -1;
    }

    private static boolean canGoOn(String prefix) {
        for (String completion : COMPLETIONS) {
            if (TEXT.matcher(prefix + completion).matches()) {
                return true;
            }
        }
        return false;
    }

    int append(int level, int many) {
        if (level < 0 || level > 9 || many < 1 || many > 200) {
            return BAD;
        }
        if (many > 200 - now.levels().size()) {
            return FULL;
        }
        act();
        for (int i = 0; i < many; i++) {
            now.levels().add(level);
        }
        return now.levels().size();
    }

    int babble(int seed, int many) {
        if (many < 1 || many > 200) {
            return BAD;
        }
        if (many > 200 - now.levels().size()) {
            return FULL;
        }
        act();
        int x = seed;
        for (int i = 0; i < many; i++) {
            x = (int) (1103515245L * x + 12345L);
            now.levels().add((int) ((x & 0xFFFFFFFFL) / 65536) % 10);
        }
        return now.levels().size();
    }

    int mark(int kind, int from, int to, int doubt) {
        if (kind < 0 || kind > 3 || from < 0 || to > now.levels().size() || doubt < 0 || doubt > 100 || to <= from) {
            return BAD;
        }
        for (int frame = from; frame < to; frame++) {
            if (markAt(frame) >= 0) {
                return STATE;
            }
        }
        if (now.marks().size() == 20) {
            return FULL;
        }
        act();
        Mark added = new Mark(kind, from, to, doubt, false);
        now.marks().add(added);
        now.marks().sort((a, b) -> Integer.compare(a.first(), b.first()));
        return now.marks().indexOf(added);
    }

    private int markAt(int frame) {
        for (int i = 0; i < now.marks().size(); i++) {
            Mark m = now.marks().get(i);
            if (m.first() <= frame && frame < m.end()) {
                return i;
            }
        }
        return -1;
    }

    private boolean noMark(int mark) {
        return mark < 0 || mark >= now.marks().size();
    }

    int unmark(int mark) {
        if (noMark(mark)) {
            return BAD;
        }
        act();
        now.marks().remove(mark);
        return now.marks().size();
    }

    int hold(int mark, boolean on) {
        if (noMark(mark)) {
            return BAD;
        }
        act();
        Mark m = now.marks().get(mark);
        now.marks().set(mark, new Mark(m.kind(), m.first(), m.end(), m.doubt(), on));
        return m.held() ? 1 : 0;
    }

    int set(int setting, int value) {
        if (setting < 0 || setting > 6 || value < 0 || value > GREATEST[setting]) {
            return BAD;
        }
        act();
        return now.settings().set(setting, value);
    }

    int setting(int what) {
        if (what < 0 || what > 8) {
            return BAD;
        }
        return what == 7 ? now.levels().size() : what == 8 ? now.marks().size() : now.settings().get(what);
    }

    int about(int mark, int what) {
        if (noMark(mark) || what < 0 || what > 5) {
            return BAD;
        }
        Mark m = now.marks().get(mark);
        if (what == 5) {
            List<Cut> found = found();
            for (int i = 0; i < found.size(); i++) {
                if (found.get(i).mark() == mark) {
                    return i;
                }
            }
            return NONE;
        }
        return new int[] {m.kind(), m.first(), m.end(), m.doubt(), m.held() ? 1 : 0}[what];
    }

    int level(int frame) {
        return frame < 0 || frame >= now.levels().size() ? BAD : now.levels().get(frame);
    }

    private boolean quiet(int seam) {
        int zero = now.settings().get(1);
        int before = seam > 0 ? now.levels().get(seam - 1) : 0;
        int behind = seam < now.levels().size() ? now.levels().get(seam) : 0;
        return before <= zero && behind <= zero;
    }

    /** The nearest of the quiet seams in a range: all are looked at, and the first of the nearest stays. */
    private Integer nearest(int target, int low, int high) {
        int window = now.settings().get(2);
        Integer best = null;
        for (int seam = 0; seam <= now.levels().size(); seam++) {
            boolean among = target - window <= seam && seam <= target + window && low <= seam && seam <= high;
            if (among && quiet(seam) && (best == null || Math.abs(seam - target) < Math.abs(best - target))) {
                best = seam;
            }
        }
        return best;
    }

    private List<Cut> found() {
        List<Cut> found = new ArrayList<>();
        for (int i = 0; i < now.marks().size(); i++) {
            Mark m = now.marks().get(i);
            if (m.held()) {
                continue;
            }
            if (m.kind() == 0 && m.doubt() <= now.settings().get(0)) {
                found.add(fillerCut(i, m, found));
            }
            int n = m.end() - m.first();
            int l = now.settings().get(5);
            if (m.kind() == 1 && n < now.settings().get(6)) {
                found.add(new Cut(m.first(), m.end(), 0, false, i));
            } else if (m.kind() == 1 && n > l) {
                found.add(new Cut(m.first() + (l + 1) / 2, m.end() - l / 2, 0, false, i));
            }
        }
        return found;
    }

    private Cut fillerCut(int number, Mark m, List<Cut> before) {
        int low = 0;
        if (!before.isEmpty()) {
            low = before.get(before.size() - 1).end();
        }
        if (number > 0) {
            low = Math.max(low, now.marks().get(number - 1).end());
        }
        Integer begin = nearest(m.first(), low, m.end() - 1);
        int begins = begin == null ? m.first() : begin;
        boolean last = number == now.marks().size() - 1;
        int high = last ? now.levels().size() : now.marks().get(number + 1).first();
        Integer end = nearest(m.end(), begins + 1, high);
        int ends = end == null ? m.end() : end;
        int pause = Math.min(now.settings().get(3), (ends - begins) * now.settings().get(4) / 100);
        return new Cut(begins, ends, pause, begin == null || end == null, number);
    }

    int cuts() {
        return found().size();
    }

    int cut(int cut, int what) {
        List<Cut> found = found();
        if (cut < 0 || cut >= found.size() || what < 0 || what > 4) {
            return BAD;
        }
        Cut c = found.get(cut);
        return new int[] {c.begin(), c.end(), c.pause(), c.rough() ? 1 : 0, c.mark()}[what];
    }

    int sum(int what) {
        List<Cut> found = found();
        switch (what) {
            case 0:
                return found.stream().mapToInt(Cut::frames).sum();
            case 1:
                return found.stream().mapToInt(Cut::pause).sum();
            case 2:
                return (int) found.stream().filter(Cut::rough).count();
            default:
                return BAD;
        }
    }

    private int sumWith(int setting, int value, int what) {
        int before = now.settings().set(setting, value);
        int sum = sum(what);
        now.settings().set(setting, before);
        return sum;
    }

    int bestWindow() {
        int best = 20;
        for (int window = 20; window >= 0; window--) {
            if (sumWith(2, window, 2) <= sumWith(2, best, 2)) {
                best = window;
            }
        }
        return best;
    }

    int greatestDoubt(int frames) {
        if (frames < 0) {
            return BAD;
        }
        int greatest = NONE;
        for (int doubt = 0; doubt <= 100; doubt++) {
            if (sumWith(0, doubt, 0) <= frames) {
                greatest = doubt;
            }
        }
        return greatest;
    }

    private List<Heard> result() {
        List<Integer> room = new ArrayList<>();
        for (Mark m : now.marks()) {
            for (int frame = m.first(); m.kind() == 2 && frame < m.end(); frame++) {
                room.add(frame);
            }
        }
        List<Cut> found = found();
        List<Heard> result = new ArrayList<>();
        int taken = 0;
        for (int frame = 0; frame < now.levels().size(); frame++) {
            boolean stays = true;
            for (Cut c : found) {
                for (int i = 0; c.begin() == frame && i < c.pause(); i++) {
                    int sound = room.isEmpty() ? -1 : room.get(taken++ % room.size());
                    result.add(sound < 0 ? new Heard(2000, 0) : new Heard(1000 + sound, now.levels().get(sound)));
                }
                stays &= frame < c.begin() || frame >= c.end();
            }
            if (stays) {
                int mark = markAt(frame);
                boolean noise = mark >= 0 && now.marks().get(mark).kind() == 3;
                result.add(new Heard(frame, now.levels().get(frame) / (noise ? 2 : 1)));
            }
        }
        return result;
    }

    int length() {
        return result().size();
    }

    int heard(int frame, int what) {
        List<Heard> result = result();
        if (frame < 0 || frame >= result.size() || what < 0 || what > 1) {
            return BAD;
        }
        return what == 0 ? result.get(frame).source() : result.get(frame).level();
    }

    int where(int frame) {
        if (frame < 0 || frame >= now.levels().size()) {
            return BAD;
        }
        int place = result().stream().map(Heard::source).toList().indexOf(frame);
        return place < 0 ? NONE : place;
    }

    int clicks(int by) {
        if (by < 0 || by > 9) {
            return BAD;
        }
        List<Heard> result = result();
        int clicks = 0;
        for (int i = 0; i + 1 < result.size(); i++) {
            int step = result.get(i).level() - result.get(i + 1).level();
            clicks += step > by || -step > by ? 1 : 0;
        }
        return clicks;
    }

    float loudness() {
        List<Heard> result = result();
        float sum = result.stream().mapToInt(Heard::level).sum();
        return result.isEmpty() ? 0f : sum / result.size();
    }

    float share() {
        float all = now.levels().size();
        float stay = now.levels().size() - sum(0);
        return all == 0 ? 0f : stay / all;
    }

    int silence() {
        List<Heard> result = result();
        int longest = 0;
        for (int from = 0; from < result.size(); from++) {
            int to = from;
            while (to < result.size() && result.get(to).level() <= now.settings().get(1)) {
                to++;
            }
            longest = Math.max(longest, to - from);
        }
        return longest;
    }

    int undo() {
        if (history.isEmpty()) {
            return NONE;
        }
        now = history.removeLast();
        return history.size();
    }

    long fingerprint() {
        List<Integer> numbers = new ArrayList<>();
        for (int what = 0; what <= 8; what++) {
            numbers.add(setting(what));
        }
        numbers.addAll(now.levels());
        List<Cut> found = found();
        for (int i = 0; i < now.marks().size(); i++) {
            Mark m = now.marks().get(i);
            numbers.addAll(List.of(m.kind(), m.first(), m.end(), m.doubt(), m.held() ? 1 : 0, about(i, 5)));
        }
        numbers.add(found.size());
        for (Cut c : found) {
            numbers.addAll(List.of(c.begin(), c.end(), c.pause(), c.rough() ? 1 : 0, c.mark()));
        }
        List<Heard> result = result();
        numbers.add(result.size());
        for (Heard h : result) {
            numbers.addAll(List.of(h.source(), h.level()));
        }
        long print = 151;
        for (int number : numbers) {
            print = 31 * print + number;
        }
        return print;
    }
}
