/**
 * A cleaner for spoken recordings: fillers are cut at quiet seams and give way to a little room
 * sound, breaths are shortened or dropped, noise is lowered.
 *
 * <p>All rows are made once, in constructors, and used again by every call; cuts and result are
 * found anew for each question, so that they can never be out of step with the marks.
 */
public final class SpeechCleaner {
    public static final int BAD = -1;
    public static final int STATE = -2;
    public static final int FULL = -3;
    public static final int NONE = -9;

    private static final int MOST_FRAMES = 200;
    private static final int MOST_MARKS = 20;
    private static final int MOST_CHARACTERS = 120;
    private static final int MOST_STATES = 4;
    private static final int MOST_WINDOW = 20;
    private static final int MOST_DOUBT = 100;

    private static final int FILLER = 0;
    private static final int BREATH = 1;
    private static final int ROOM = 2;
    private static final int NOISE = 3;

    private static final int GREATEST_DOUBT = 0;
    private static final int ZERO_LEVEL = 1;
    private static final int WINDOW = 2;
    private static final int LONGEST_PAUSE = 3;
    private static final int RHYTHM = 4;
    private static final int LONGEST_BREATH = 5;
    private static final int SHORTEST_BREATH = 6;
    private static final int SETTINGS = 7;
    private static final int[] INITIAL_SETTINGS = {30, 1, 5, 4, 50, 6, 2};
    private static final int[] GREATEST_SETTINGS = {100, 9, 20, 50, 100, 50, 50};

    private static final int NO_SEAM = -1;
    private static final int ROOM_SOURCE = 1000;
    private static final int EMPTY_SOURCE = 2000;
    private static final int TEXT_ERROR = -100;

    private final int[] buffer = new int[MOST_CHARACTERS];
    private int characters = 0;
    private final Recording recording = new Recording();
    private final History history = new History();
    private final TextReader reader = new TextReader();
    private final CutList cutList = new CutList();
    private final Result result = new Result();

    public SpeechCleaner() {
    }

    // ---- the recording

    public int type(int c) {
        if (c < 32 || c > 126) {
            return BAD;
        }
        if (characters >= MOST_CHARACTERS) {
            return FULL;
        }
        buffer[characters] = c;
        characters++;
        return characters;
    }

    public int clear() {
        int had = characters;
        characters = 0;
        return had;
    }

    public int read() {
        int errorPlace = reader.parse(buffer, characters);
        if (errorPlace != NONE) {
            return TEXT_ERROR - errorPlace;
        }
        history.keep(recording);
        recording.copySound(reader.draft);
        characters = 0;
        return recording.frames;
    }

    public int append(int level, int many) {
        if (level < 0 || level > 9 || many < 1 || many > MOST_FRAMES) {
            return BAD;
        }
        if (recording.frames + many > MOST_FRAMES) {
            return FULL;
        }
        history.keep(recording);
        for (int i = 0; i < many; i++) {
            recording.addFrame(level);
        }
        return recording.frames;
    }

    public int babble(int seed, int many) {
        if (many < 1 || many > MOST_FRAMES) {
            return BAD;
        }
        if (recording.frames + many > MOST_FRAMES) {
            return FULL;
        }
        history.keep(recording);
        int x = seed;
        for (int i = 0; i < many; i++) {
            x = 1103515245 * x + 12345;
            recording.addFrame((x >>> 16) % 10);
        }
        return recording.frames;
    }

    public int mark(int kind, int from, int to, int doubt) {
        if (kind < FILLER || kind > NOISE || doubt < 0 || doubt > MOST_DOUBT) {
            return BAD;
        }
        if (from < 0 || to > recording.frames || to <= from) {
            return BAD;
        }
        if (recording.overlaps(from, to)) {
            return STATE;
        }
        if (recording.marks >= MOST_MARKS) {
            return FULL;
        }
        history.keep(recording);
        return recording.addMark(kind, from, to, doubt);
    }

    public int unmark(int mark) {
        if (!recording.hasMark(mark)) {
            return BAD;
        }
        history.keep(recording);
        recording.removeMark(mark);
        return recording.marks;
    }

    public int hold(int mark, boolean on) {
        if (!recording.hasMark(mark)) {
            return BAD;
        }
        history.keep(recording);
        int before = recording.held[mark] ? 1 : 0;
        recording.held[mark] = on;
        return before;
    }

    public int set(int setting, int value) {
        if (setting < 0 || setting >= SETTINGS) {
            return BAD;
        }
        if (value < 0 || value > GREATEST_SETTINGS[setting]) {
            return BAD;
        }
        history.keep(recording);
        int before = recording.settings[setting];
        recording.settings[setting] = value;
        return before;
    }

    public int setting(int what) {
        if (what < 0 || what > SETTINGS + 1) {
            return BAD;
        }
        if (what < SETTINGS) {
            return recording.settings[what];
        }
        return what == SETTINGS ? recording.frames : recording.marks;
    }

    public int about(int mark, int what) {
        if (!recording.hasMark(mark) || what < 0 || what > 5) {
            return BAD;
        }
        if (what == 5) {
            return currentCuts().cutOfMark(mark);
        }
        return recording.numberOfMark(mark, what);
    }

    public int level(int frame) {
        if (!recording.hasFrame(frame)) {
            return BAD;
        }
        return recording.levelAt(frame);
    }

    // ---- cuts

    public int cuts() {
        return currentCuts().count;
    }

    public int cut(int cut, int what) {
        CutList found = currentCuts();
        if (cut < 0 || cut >= found.count || what < 0 || what > 4) {
            return BAD;
        }
        return found.numberOfCut(cut, what);
    }

    public int sum(int what) {
        CutList found = currentCuts();
        switch (what) {
            case 0:
                return found.cutFrames();
            case 1:
                return found.pauseFrames();
            case 2:
                return found.roughCuts();
            default:
                return BAD;
        }
    }

    public int bestWindow() {
        int best = 0;
        int fewest = MOST_MARKS + 1;
        for (int window = 0; window <= MOST_WINDOW; window++) {
            cutList.find(recording, recording.settings[GREATEST_DOUBT], window);
            int rough = cutList.roughCuts();
            if (rough < fewest) {
                best = window;
                fewest = rough;
            }
        }
        return best;
    }

    public int greatestDoubt(int frames) {
        if (frames < 0) {
            return BAD;
        }
        for (int doubt = MOST_DOUBT; doubt >= 0; doubt--) {
            // The cuts stay the same on the way down until a filler falls out.
            if (doubt == MOST_DOUBT || recording.hasFillerOfDoubt(doubt + 1)) {
                cutList.find(recording, doubt, recording.settings[WINDOW]);
            }
            if (cutList.cutFrames() <= frames) {
                return doubt;
            }
        }
        return NONE;
    }

    // ---- the result

    public int length() {
        return currentResult().count;
    }

    public int heard(int frame, int what) {
        Result now = currentResult();
        if (frame < 0 || frame >= now.count || what < 0 || what > 1) {
            return BAD;
        }
        return what == 0 ? now.sources[frame] : now.levels[frame];
    }

    public int where(int frame) {
        if (!recording.hasFrame(frame)) {
            return BAD;
        }
        return currentResult().placeOfSource(frame);
    }

    public int clicks(int by) {
        if (by < 0 || by > 9) {
            return BAD;
        }
        return currentResult().stepsGreaterThan(by);
    }

    public float loudness() {
        Result now = currentResult();
        if (now.count == 0) {
            return 0;
        }
        return (float) now.sumOfLevels() / (float) now.count;
    }

    public float share() {
        if (recording.frames == 0) {
            return 0;
        }
        int stay = recording.frames - currentCuts().cutFrames();
        return (float) stay / (float) recording.frames;
    }

    public int silence() {
        return currentResult().longestStretchUpTo(recording.settings[ZERO_LEVEL]);
    }

    // ---- history

    public int undo() {
        if (history.count == 0) {
            return NONE;
        }
        history.restoreLatest(recording);
        return history.count;
    }

    public long fingerprint() {
        long print = 151;
        for (int what = 0; what <= SETTINGS + 1; what++) {
            print = 31 * print + setting(what);
        }
        for (int frame = 0; frame < recording.frames; frame++) {
            print = 31 * print + recording.levels[frame];
        }
        CutList found = currentCuts();
        print = withMarks(print, found);
        print = withCuts(print, found);
        return withResult(print, currentResult());
    }

    private long withMarks(long before, CutList found) {
        long print = before;
        for (int mark = 0; mark < recording.marks; mark++) {
            for (int what = 0; what < 5; what++) {
                print = 31 * print + recording.numberOfMark(mark, what);
            }
            print = 31 * print + found.cutOfMark(mark);
        }
        return print;
    }

    private long withCuts(long before, CutList found) {
        long print = 31 * before + found.count;
        for (int cut = 0; cut < found.count; cut++) {
            for (int what = 0; what < 5; what++) {
                print = 31 * print + found.numberOfCut(cut, what);
            }
        }
        return print;
    }

    private long withResult(long before, Result now) {
        long print = 31 * before + now.count;
        for (int frame = 0; frame < now.count; frame++) {
            print = 31 * print + now.sources[frame];
            print = 31 * print + now.levels[frame];
        }
        return print;
    }

    private CutList currentCuts() {
        cutList.find(recording, recording.settings[GREATEST_DOUBT], recording.settings[WINDOW]);
        return cutList;
    }

    private Result currentResult() {
        // Not by currentCuts(): LANGUAGE.md lets calls go eight deep, and this way they go seven.
        cutList.find(recording, recording.settings[GREATEST_DOUBT], recording.settings[WINDOW]);
        result.build(recording, cutList);
        return result;
    }

    /** Frames, marks and settings: all that the history keeps of a state. */
    private static final class Recording {
        final int[] levels = new int[MOST_FRAMES];
        int frames = 0;
        final int[] kinds = new int[MOST_MARKS];
        final int[] firsts = new int[MOST_MARKS];
        final int[] ends = new int[MOST_MARKS];
        final int[] doubts = new int[MOST_MARKS];
        final boolean[] held = new boolean[MOST_MARKS];
        int marks = 0;
        final int[] settings = new int[SETTINGS];

        Recording() {
            System.arraycopy(INITIAL_SETTINGS, 0, settings, 0, SETTINGS);
        }

        void copyAll(Recording other) {
            copySound(other);
            System.arraycopy(other.settings, 0, settings, 0, SETTINGS);
        }

        void copySound(Recording other) {
            frames = other.frames;
            System.arraycopy(other.levels, 0, levels, 0, MOST_FRAMES);
            marks = other.marks;
            for (int i = 0; i < marks; i++) {
                copyMark(other, i, i);
            }
        }

        void removeSound() {
            frames = 0;
            marks = 0;
        }

        void addFrame(int newLevel) {
            if (frames < MOST_FRAMES) {
                levels[frames] = newLevel;
                frames++;
            }
        }

        boolean hasFrame(int frame) {
            return frame >= 0 && frame < frames;
        }

        /** The level of a frame; outside of the recording it counts as 0. */
        int levelAt(int frame) {
            return frame >= 0 && frame < frames ? levels[frame] : 0;
        }

        boolean hasMark(int number) {
            return number >= 0 && number < marks;
        }

        boolean overlaps(int from, int to) {
            for (int i = 0; i < marks; i++) {
                if (from < ends[i] && firsts[i] < to) {
                    return true;
                }
            }
            return false;
        }

        /** Adds a mark where its first frame puts it, and answers its number. */
        int addMark(int kind, int from, int to, int doubt) {
            if (marks >= MOST_MARKS) {
                return FULL;
            }
            int at = marks;
            while (at > 0 && firsts[at - 1] > from) {
                copyMark(this, at - 1, at);
                at--;
            }
            kinds[at] = kind;
            firsts[at] = from;
            ends[at] = to;
            doubts[at] = doubt;
            held[at] = false;
            marks++;
            return at;
        }

        void removeMark(int number) {
            if (!hasMark(number)) {
                return;
            }
            for (int i = number; i + 1 < marks; i++) {
                copyMark(this, i + 1, i);
            }
            marks--;
        }

        void copyMark(Recording other, int source, int target) {
            kinds[target] = other.kinds[source];
            firsts[target] = other.firsts[source];
            ends[target] = other.ends[source];
            doubts[target] = other.doubts[source];
            held[target] = other.held[source];
        }

        int numberOfMark(int number, int what) {
            if (!hasMark(number)) {
                return BAD;
            }
            switch (what) {
                case 0:
                    return kinds[number];
                case 1:
                    return firsts[number];
                case 2:
                    return ends[number];
                case 3:
                    return doubts[number];
                case 4:
                    return held[number] ? 1 : 0;
                default:
                    return BAD;
            }
        }

        boolean hasFillerOfDoubt(int doubt) {
            for (int i = 0; i < marks; i++) {
                if (kinds[i] == FILLER && doubts[i] == doubt) {
                    return true;
                }
            }
            return false;
        }

        int endOfMarkBefore(int number) {
            return hasMark(number - 1) ? ends[number - 1] : 0;
        }

        int firstOfMarkAfter(int number) {
            return hasMark(number + 1) ? firsts[number + 1] : frames;
        }

        /** The quiet seam nearest to a target, of two the smaller one, or NO_SEAM. */
        int nearestQuietSeam(int target, int window, int lowest, int highest) {
            for (int distance = 0; distance <= window; distance++) {
                int before = target - distance;
                if (before >= lowest && before <= highest && isQuiet(before)) {
                    return before;
                }
                int behind = target + distance;
                if (behind >= lowest && behind <= highest && isQuiet(behind)) {
                    return behind;
                }
            }
            return NO_SEAM;
        }

        boolean isQuiet(int seam) {
            int zero = settings[ZERO_LEVEL];
            return levelAt(seam - 1) <= zero && levelAt(seam) <= zero;
        }
    }

    /** The latest states; the oldest one gives its rows to the newest when there are too many. */
    private static final class History {
        final Recording[] states = new Recording[MOST_STATES];
        int count = 0;

        History() {
            for (int i = 0; i < MOST_STATES; i++) {
                states[i] = new Recording();
            }
        }

        void keep(Recording present) {
            if (count >= MOST_STATES) {
                dropOldest();
            }
            states[count].copyAll(present);
            count++;
        }

        void dropOldest() {
            Recording oldest = states[0];
            for (int i = 1; i < MOST_STATES; i++) {
                states[i - 1] = states[i];
            }
            states[MOST_STATES - 1] = oldest;
            count = MOST_STATES - 1;
        }

        void restoreLatest(Recording present) {
            if (count > 0) {
                count--;
                present.copyAll(states[count]);
            }
        }
    }

    /** Reads texts into a draft, so that a text with an error leaves the recording as it is. */
    private static final class TextReader {
        static final int OUTSIDE = 0;
        static final int KIND = 1;
        static final int DOUBT = 2;
        static final int COLON = 3;
        static final int INSIDE = 4;
        static final int NO_PLACE = -1;

        final Recording draft = new Recording();
        int stage;
        int kind;
        int first;
        int doubt;
        int doubtDigits;
        int wrongDoubtPlace;

        /** Reads a text into the draft, and answers its error place, or NONE. */
        int parse(int[] codes, int many) {
            draft.removeSound();
            stage = OUTSIDE;
            wrongDoubtPlace = NO_PLACE;
            for (int place = 0; place < many && place < codes.length; place++) {
                if (!takes(codes[place], place)) {
                    return place;
                }
            }
            if (stage != OUTSIDE) {
                return many;
            }
            return wrongDoubtPlace == NO_PLACE ? NONE : wrongDoubtPlace;
        }

        boolean takes(int c, int place) {
            switch (stage) {
                case OUTSIDE:
                    return takesOutside(c);
                case KIND:
                    return takesKind(c);
                case DOUBT:
                    return takesDoubt(c, place);
                case COLON:
                    return takesColon(c);
                default:
                    return takesInside(c);
            }
        }

        boolean takesOutside(int c) {
            if (isDigit(c)) {
                draft.addFrame(c - '0');
                return true;
            }
            if (c != '[' || draft.marks >= MOST_MARKS) {
                return false;
            }
            stage = KIND;
            return true;
        }

        boolean takesKind(int c) {
            doubt = 0;
            doubtDigits = 0;
            stage = COLON;
            switch (c) {
                case 'f':
                    kind = FILLER;
                    stage = DOUBT;
                    return true;
                case 'b':
                    kind = BREATH;
                    return true;
                case 'r':
                    kind = ROOM;
                    return true;
                case 'n':
                    kind = NOISE;
                    return true;
                default:
                    return false;
            }
        }

        boolean takesDoubt(int c, int place) {
            if (isDigit(c) && doubtDigits < 3) {
                doubt = 10 * doubt + (c - '0');
                doubtDigits++;
                return true;
            }
            if (doubtDigits == 0 || !takesColon(c)) {
                return false;
            }
            if (doubt > MOST_DOUBT && wrongDoubtPlace == NO_PLACE) {
                wrongDoubtPlace = place - doubtDigits;
            }
            return true;
        }

        boolean takesColon(int c) {
            if (c != ':') {
                return false;
            }
            first = draft.frames;
            stage = INSIDE;
            return true;
        }

        boolean takesInside(int c) {
            if (isDigit(c)) {
                draft.addFrame(c - '0');
                return true;
            }
            if (c != ']' || draft.frames == first) {
                return false;
            }
            draft.addMark(kind, first, draft.frames, doubt);
            stage = OUTSIDE;
            return true;
        }

        static boolean isDigit(int c) {
            return c >= '0' && c <= '9';
        }
    }

    /** The cuts that the marks of a recording ask for, in the order of their marks. */
    private static final class CutList {
        final int[] begins = new int[MOST_MARKS];
        final int[] ends = new int[MOST_MARKS];
        final int[] pauses = new int[MOST_MARKS];
        final boolean[] rough = new boolean[MOST_MARKS];
        final int[] markNumbers = new int[MOST_MARKS];
        int count = 0;

        /** Finds all cuts; doubt and window are given, since the searches try others than the set ones. */
        void find(Recording from, int doubt, int window) {
            count = 0;
            for (int i = 0; i < from.marks; i++) {
                if (from.held[i]) {
                    continue;
                }
                if (from.kinds[i] == FILLER && from.doubts[i] <= doubt) {
                    addFillerCut(from, i, window);
                } else if (from.kinds[i] == BREATH) {
                    addBreathCut(from, i);
                }
            }
        }

        void addFillerCut(Recording from, int number, int window) {
            int end = from.ends[number];
            int lowest = Math.max(endOfLastCut(), from.endOfMarkBefore(number));
            int begin = from.nearestQuietSeam(from.firsts[number], window, lowest, end - 1);
            boolean roughBegin = begin == NO_SEAM;
            if (roughBegin) {
                begin = from.firsts[number];
            }
            int highest = from.firstOfMarkAfter(number);
            int stop = from.nearestQuietSeam(end, window, begin + 1, highest);
            boolean roughEnd = stop == NO_SEAM;
            if (roughEnd) {
                stop = end;
            }
            int inRhythm = (stop - begin) * from.settings[RHYTHM] / 100;
            int pause = Math.min(from.settings[LONGEST_PAUSE], inRhythm);
            addCut(begin, stop, pause, roughBegin || roughEnd, number);
        }

        void addBreathCut(Recording from, int number) {
            int first = from.firsts[number];
            int end = from.ends[number];
            int longest = from.settings[LONGEST_BREATH];
            if (end - first < from.settings[SHORTEST_BREATH]) {
                addCut(first, end, 0, false, number);
            } else if (end - first > longest) {
                addCut(first + (longest + 1) / 2, end - longest / 2, 0, false, number);
            }
        }

        void addCut(int begin, int end, int pause, boolean isRough, int number) {
            if (count >= MOST_MARKS) {
                return;
            }
            begins[count] = begin;
            ends[count] = end;
            pauses[count] = pause;
            rough[count] = isRough;
            markNumbers[count] = number;
            count++;
        }

        int endOfLastCut() {
            return count > 0 && count <= MOST_MARKS ? ends[count - 1] : 0;
        }

        int cutOfMark(int number) {
            for (int i = 0; i < count; i++) {
                if (markNumbers[i] == number) {
                    return i;
                }
            }
            return NONE;
        }

        int numberOfCut(int number, int what) {
            if (number < 0 || number >= count) {
                return BAD;
            }
            switch (what) {
                case 0:
                    return begins[number];
                case 1:
                    return ends[number];
                case 2:
                    return pauses[number];
                case 3:
                    return rough[number] ? 1 : 0;
                case 4:
                    return markNumbers[number];
                default:
                    return BAD;
            }
        }

        int cutFrames() {
            int many = 0;
            for (int i = 0; i < count; i++) {
                many += ends[i] - begins[i];
            }
            return many;
        }

        int pauseFrames() {
            int many = 0;
            for (int i = 0; i < count; i++) {
                many += pauses[i];
            }
            return many;
        }

        int roughCuts() {
            int many = 0;
            for (int i = 0; i < count; i++) {
                many += rough[i] ? 1 : 0;
            }
            return many;
        }
    }

    /** What is heard: a pause is never longer than its cut, so the frames of a recording suffice. */
    private static final class Result {
        final int[] sources = new int[MOST_FRAMES];
        final int[] levels = new int[MOST_FRAMES];
        int count = 0;
        final int[] room = new int[MOST_FRAMES];
        int roomFrames = 0;
        int roomPlace = 0;
        final boolean[] noisy = new boolean[MOST_FRAMES];

        void build(Recording from, CutList found) {
            count = 0;
            gatherRoomAndNoise(from);
            int next = 0;
            for (int i = 0; i < found.count; i++) {
                addRecorded(from, next, found.begins[i]);
                addPause(from, found.pauses[i]);
                next = found.ends[i];
            }
            addRecorded(from, next, from.frames);
        }

        void gatherRoomAndNoise(Recording from) {
            roomFrames = 0;
            roomPlace = 0;
            for (int frame = 0; frame < MOST_FRAMES; frame++) {
                noisy[frame] = false;
            }
            for (int i = 0; i < from.marks; i++) {
                for (int frame = from.firsts[i]; frame < from.ends[i]; frame++) {
                    gatherFrame(frame, from.kinds[i]);
                }
            }
        }

        void gatherFrame(int frame, int kind) {
            if (kind == ROOM && roomFrames < MOST_FRAMES) {
                room[roomFrames] = frame;
                roomFrames++;
            }
            if (kind == NOISE && frame >= 0 && frame < MOST_FRAMES) {
                noisy[frame] = true;
            }
        }

        void addRecorded(Recording from, int begin, int end) {
            for (int frame = begin; frame < end; frame++) {
                if (from.hasFrame(frame)) {
                    int whole = from.levelAt(frame);
                    add(frame, noisy[frame] ? whole / 2 : whole);
                }
            }
        }

        void addPause(Recording from, int many) {
            for (int i = 0; i < many; i++) {
                if (roomFrames == 0) {
                    add(EMPTY_SOURCE, 0);
                } else {
                    int frame = nextRoomFrame();
                    add(ROOM_SOURCE + frame, from.levelAt(frame));
                }
            }
        }

        int nextRoomFrame() {
            if (roomPlace >= roomFrames) {
                roomPlace = 0;
            }
            int frame = room[roomPlace];
            roomPlace++;
            return frame;
        }

        void add(int source, int newLevel) {
            if (count < MOST_FRAMES) {
                sources[count] = source;
                levels[count] = newLevel;
                count++;
            }
        }

        int placeOfSource(int source) {
            for (int i = 0; i < count; i++) {
                if (sources[i] == source) {
                    return i;
                }
            }
            return NONE;
        }

        int stepsGreaterThan(int by) {
            int many = 0;
            for (int i = 1; i < count; i++) {
                if (Math.abs(levels[i] - levels[i - 1]) > by) {
                    many++;
                }
            }
            return many;
        }

        int sumOfLevels() {
            int total = 0;
            for (int i = 0; i < count; i++) {
                total += levels[i];
            }
            return total;
        }

        int longestStretchUpTo(int zero) {
            int longest = 0;
            int stretch = 0;
            for (int i = 0; i < count; i++) {
                stretch = levels[i] <= zero ? stretch + 1 : 0;
                longest = Math.max(longest, stretch);
            }
            return longest;
        }
    }
}
