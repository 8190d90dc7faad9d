import java.util.Arrays;

/**
 * A score and its road map: bars with repeats, endings and one jump; whether the map is well formed; the bars
 * as they are played, with their times; notes whose ties go on over the played bars; and bars of rest gathered
 * for the printer.
 */
public final class ScoreRoads {
    public static final int NONE = -1;

    private static final int MOST_BARS = 20;
    private static final int USUAL_BARS = 12;
    private static final int PARTS = 3;
    private static final int MOST_NOTES = 40;
    private static final int MOST_LENGTH = 32;
    private static final int MOST_TEMPO = 1000;
    private static final int MOST_PITCH = 127;

    // Before the jump, behind it, and from the coda on: in each of these a bar comes at most four times.
    private static final int MOST_TIMES = 12;

    private static final int START = 0;
    private static final int END = 1;
    private static final int ENDING = 2;
    private static final int SEGNO = 3;
    private static final int CODA = 4;
    private static final int FINE = 5;
    private static final int OVER = 6;
    private static final int JUMP = 7;
    private static final int LETTER = 8;
    private static final int DOUBLE = 9;
    private static final int KINDS = 10;
    private static final int[] LEAST_VALUES = {1, 2, 1, 1, 1, 1, 1, 1, 1, 1};
    private static final int[] MOST_VALUES = {1, 4, 15, 1, 1, 1, 1, 12, 1, 1};

    private final Page page;
    private final Notes notes;
    private final Repeats repeats;
    private final Road road;
    private final Sounding sounding;
    private boolean roadKnown;
    private int fault;

    public ScoreRoads(int bars) {
        int count = bars >= 1 && bars <= MOST_BARS ? bars : USUAL_BARS;
        page = new Page(count);
        notes = new Notes();
        repeats = new Repeats(count);
        road = new Road(count);
        sounding = new Sounding();
    }

    public void bar(int b, int length, int tempo) throws IllegalArgumentException, IllegalStateException {
        if (!page.hasBar(b) || !isWithin(length, 1, MOST_LENGTH) || !isWithin(tempo, 1, MOST_TEMPO)) {
            throw new IllegalArgumentException("no such bar, length or tempo");
        }
        if (notes.endIn(b) > length) {
            throw new IllegalStateException("a note would go over the bar's end");
        }
        page.shape(b, length, tempo);
        sounding.forget();
    }

    public boolean sign(int b, int kind, int value) throws IllegalArgumentException, IllegalStateException {
        if (!page.hasBar(b) || !isKind(kind) || !isValue(kind, value)) {
            throw new IllegalArgumentException("no such bar, kind or value");
        }
        int old = page.value(b, kind);
        if (value == old) {
            return false;
        }
        if (value != 0 && old != 0) {
            throw new IllegalStateException("there is such a sign with another value");
        }
        page.put(b, kind, value);
        roadKnown = false;
        sounding.forget();
        return true;
    }

    public int signAt(int b, int kind) {
        return page.value(b, kind);
    }

    public int note(int part, int b, int start, int length, int pitch, boolean tie)
            throws IllegalArgumentException, IllegalStateException {
        needPart(part);
        if (!page.hasBar(b) || !isWithin(pitch, 0, MOST_PITCH)) {
            throw new IllegalArgumentException("no such bar or pitch");
        }
        // The length is held against what is left of the bar, since start + length may wrap around.
        if (start < 0 || length < 1 || length > page.lengthOf(b) - start) {
            throw new IllegalArgumentException("the note does not lie in the bar");
        }
        if (notes.isFull() || notes.seek(part, b, start, pitch) != null) {
            throw new IllegalStateException("there are too many notes, or there is this one");
        }
        notes.add(new Note(part, b, start, length, pitch, tie));
        sounding.forget();
        return notes.number;
    }

    public int transpose(int part, int steps) throws IllegalArgumentException {
        needPart(part);
        if (!notes.canShift(part, steps)) {
            throw new IllegalArgumentException("a pitch would be out of its bounds");
        }
        // Which sounds there are, and their order, stays: they are not forgotten here.
        return notes.shift(part, steps);
    }

    public int check() {
        knowRoad();
        return fault;
    }

    public int plays() {
        knowRoad();
        return fault == 0 ? road.number : NONE;
    }

    public int played(int i) throws IllegalStateException, IndexOutOfBoundsException {
        needRoad();
        needPlayed(i, road.number - 1);
        return road.barOf(i);
    }

    public int time(int i) throws IllegalStateException, IndexOutOfBoundsException {
        needRoad();
        needPlayed(i, road.number - 1);
        return road.timesUpTo(i);
    }

    public int find(int b, int k) throws IllegalStateException {
        needRoad();
        return road.indexOf(b, k);
    }

    public long tick(int i) throws IllegalStateException, IndexOutOfBoundsException {
        needRoad();
        needPlayed(i, road.number);
        return road.ticksTo(page, i);
    }

    public int at(long tick) throws IllegalStateException {
        needRoad();
        return road.indexAt(page, tick);
    }

    public int sounds(int part) throws IllegalArgumentException, IllegalStateException {
        needPart(part);
        needRoad();
        sounding.know(part, page, notes, road);
        return sounding.number;
    }

    public long sound(int part, int i, int what) throws IllegalArgumentException, IllegalStateException {
        needPart(part);
        needRoad();
        sounding.know(part, page, notes, road);
        if (!isWithin(i, 0, sounding.number - 1)) {
            return NONE;
        }
        switch (what) {
            case 0:
                return sounding.beginOf(i, page, road);
            case 1:
                return sounding.pitchOf(i);
            case 2:
                return sounding.lengthOf(i, false, page, notes, road);
            case 3:
                return sounding.lengthOf(i, true, page, notes, road);
            default:
                return NONE;
        }
    }

    public int rest(int part, int i) throws IllegalArgumentException {
        needPart(part);
        int groups = 0;
        for (int b = 0; b < page.bars; b++) {
            if (notes.isRest(part, b) && !goesOnResting(part, b)) {
                if (groups == i) {
                    return 100 * b + restBars(part, b);
                }
                groups++;
            }
        }
        return NONE;
    }

    private int restBars(int part, int first) {
        int end = first + 1;
        while (end < page.bars && notes.isRest(part, end) && goesOnResting(part, end)) {
            end++;
        }
        return end - first;
    }

    private boolean goesOnResting(int part, int b) {
        return b > 0 && notes.isRest(part, b - 1) && !page.isCutBefore(b);
    }

    private void knowRoad() {
        if (roadKnown) {
            return;
        }
        repeats.gather(page);
        fault = Faults.least(page, repeats);
        if (fault == 0) {
            road.walk(page, repeats);
        }
        roadKnown = true;
    }

    private void needRoad() {
        knowRoad();
        if (fault != 0) {
            throw new IllegalStateException("the map has a fault");
        }
    }

    private static void needPart(int part) {
        if (!isWithin(part, 0, PARTS - 1)) {
            throw new IllegalArgumentException("no such part");
        }
    }

    private static void needPlayed(int i, int most) {
        if (!isWithin(i, 0, most)) {
            throw new IndexOutOfBoundsException("not so many bars are played");
        }
    }

    private static boolean isKind(int kind) {
        return isWithin(kind, 0, KINDS - 1);
    }

    private static boolean isValue(int kind, int value) {
        return value == 0 || isKind(kind) && isWithin(value, LEAST_VALUES[kind], MOST_VALUES[kind]);
    }

    private static boolean isWithin(int number, int least, int most) {
        return number >= least && number <= most;
    }

    /** The bars with their lengths, tempos and signs. */
    private static final class Page {
        private static final int FIRST_LENGTH = 16;
        private static final int FIRST_TEMPO = 10;

        final int bars;
        private final int[] lengths;
        private final int[] tempos;
        private final int[] values;

        Page(int bars) {
            this.bars = bars;
            lengths = new int[bars];
            tempos = new int[bars];
            values = new int[bars * KINDS];
            Arrays.fill(lengths, FIRST_LENGTH);
            Arrays.fill(tempos, FIRST_TEMPO);
        }

        boolean hasBar(int b) {
            return b >= 0 && b < bars;
        }

        void shape(int b, int length, int tempo) {
            if (hasBar(b)) {
                lengths[b] = length;
                tempos[b] = tempo;
            }
        }

        int lengthOf(int b) {
            return hasBar(b) ? lengths[b] : 0;
        }

        int tempoOf(int b) {
            return hasBar(b) ? tempos[b] : 0;
        }

        void put(int b, int kind, int value) {
            if (hasBar(b) && isKind(kind)) {
                values[b * KINDS + kind] = value;
            }
        }

        /** The value of a sign; 0 when there is none such. */
        int value(int b, int kind) {
            boolean isOnPage = b >= 0 && b < bars && kind >= 0 && kind < KINDS;
            return isOnPage ? values[b * KINDS + kind] : 0;
        }

        boolean has(int b, int kind) {
            return value(b, kind) != 0;
        }

        boolean hasPass(int b, int pass) {
            return (value(b, ENDING) & passBit(pass)) != 0;
        }

        static int passBit(int pass) {
            return 1 << (pass - 1);
        }

        /** The last bar with a sign of a kind, from one bar to another one (itself, too); NONE when there is none. */
        int lastWith(int kind, int from, int to) {
            if (kind < 0 || kind >= KINDS) {
                return NONE;
            }
            for (int b = Math.min(to, bars - 1); b >= Math.max(from, 0); b--) {
                if (values[b * KINDS + kind] != 0) {
                    return b;
                }
            }
            return NONE;
        }

        boolean isCutBefore(int b) {
            return opensCut(b) || closesCut(b - 1) || lengthOf(b) != lengthOf(b - 1);
        }

        private boolean opensCut(int b) {
            return has(b, START) || has(b, ENDING) || has(b, SEGNO) || has(b, CODA) || has(b, LETTER);
        }

        private boolean closesCut(int b) {
            return has(b, END) || has(b, FINE) || has(b, OVER) || has(b, JUMP) || has(b, DOUBLE);
        }
    }

    /** What the value of a JUMP says. */
    private static final class Jump {
        static final int TO_FINE = 1;
        static final int OVER_TO_CODA = 2;

        static boolean isToSegno(int value) {
            return (value - 1) % 2 == 1;
        }

        static int way(int value) {
            return (value - 1) / 2 % 3;
        }

        static boolean hasRepeats(int value) {
            return value > 6;
        }

        /** The bar where the JUMP in a bar goes to; NONE when it goes to a segno that is not there. */
        static int target(Page page, int b) {
            return isToSegno(page.value(b, JUMP)) ? page.lastWith(SEGNO, 0, b) : 0;
        }
    }

    /** One repeat: its bars, its count, and the pass in which the walk is. */
    private static final class Repeat {
        int first;
        int firstEnd;
        int lastEnd;
        int firstEnding;
        int lastEnding;
        int count;
        int pass;

        boolean hasEndings() {
            return firstEnding != NONE;
        }

        boolean spans(int b) {
            return b >= first && b <= lastEnd;
        }
    }

    /** The repeats of the page, from the left on; no two of them share a bar. */
    private static final class Repeats {
        private final Repeat[] all;
        private final Repeat[] byEnd;
        private final Repeat[] byEnding;
        private int number;

        Repeats(int bars) {
            all = new Repeat[bars];
            byEnd = new Repeat[bars];
            byEnding = new Repeat[bars];
            for (int r = 0; r < bars; r++) {
                all[r] = new Repeat();
            }
        }

        void gather(Page page) {
            number = 0;
            for (int b = 0; b < byEnd.length; b++) {
                byEnd[b] = null;
                byEnding[b] = null;
            }
            gatherEnds(page);
            for (int r = 0; r < number; r++) {
                gatherEndings(page, all[r]);
            }
        }

        private void gatherEnds(Page page) {
            Repeat repeat = null;
            for (int b = 0; b < byEnd.length; b++) {
                if (page.has(b, END) && number < all.length) {
                    if (repeat == null) {
                        repeat = begin(page, 0, b);
                    } else if (!goesOn(page, repeat.lastEnd + 1, b)) {
                        repeat = begin(page, repeat.lastEnd + 1, b);
                    }
                    repeat.lastEnd = b;
                    byEnd[b] = repeat;
                }
            }
        }

        /** Whether an END goes on with the repeat whose END so far lies right before the bar "behind". */
        private static boolean goesOn(Page page, int behind, int end) {
            return page.has(behind, ENDING) && page.lastWith(START, behind, end) == NONE;
        }

        private Repeat begin(Page page, int behind, int end) {
            int start = page.lastWith(START, behind, end);
            Repeat repeat = all[number];
            repeat.first = start == NONE ? behind : start;
            repeat.firstEnd = end;
            repeat.firstEnding = NONE;
            repeat.lastEnding = NONE;
            repeat.count = page.value(end, END);
            number++;
            return repeat;
        }

        private void gatherEndings(Page page, Repeat repeat) {
            for (int b = repeat.first; b <= repeat.firstEnd; b++) {
                takeEnding(page, repeat, b);
            }
            if (!repeat.hasEndings()) {
                return;
            }
            for (int b = repeat.firstEnd; b <= repeat.lastEnd; b++) {
                if (ofEnd(b) == repeat) {
                    takeEnding(page, repeat, b + 1);
                }
            }
        }

        private void takeEnding(Page page, Repeat repeat, int b) {
            if (page.has(b, ENDING) && byEnding[b] == null) {
                byEnding[b] = repeat;
                repeat.lastEnding = b;
                if (!repeat.hasEndings()) {
                    repeat.firstEnding = b;
                }
            }
        }

        Repeat ofEnd(int b) {
            return b >= 0 && b < byEnd.length ? byEnd[b] : null;
        }

        Repeat ofEnding(int b) {
            return b >= 0 && b < byEnding.length ? byEnding[b] : null;
        }

        /** The repeat that has the bar between its first bar and its last END, or null. */
        Repeat around(int b) {
            for (int r = 0; r < number; r++) {
                if (all[r].spans(b)) {
                    return all[r];
                }
            }
            return null;
        }

        void resetPasses() {
            for (int r = 0; r < number; r++) {
                all[r].pass = 1;
            }
        }
    }

    /** Looks for what is wrong with the map. */
    private static final class Faults {
        private static final int KINDS_OF_FAULT = 7;

        static int least(Page page, Repeats repeats) {
            for (int kind = 1; kind <= KINDS_OF_FAULT; kind++) {
                for (int b = 0; b < page.bars; b++) {
                    if (isThere(kind, page, repeats, b)) {
                        return 100 * kind + b;
                    }
                }
            }
            return 0;
        }

        private static boolean isThere(int kind, Page page, Repeats repeats, int b) {
            switch (kind) {
                case 1:
                    return page.has(b, START) && isNeverEnded(page, b);
                case 2:
                    return page.has(b, ENDING) && isStrayEnding(repeats, b);
                case 3:
                    return page.has(b, END) && isUnlikeItsRepeat(page, repeats, b);
                case 4:
                    return isFirstOfWrongPasses(page, repeats, b);
                case 5:
                    return isSecond(page, SEGNO, b) || isSecond(page, CODA, b) || isSecond(page, JUMP, b);
                case 6:
                    return page.has(b, JUMP) && Jump.target(page, b) == NONE;
                default:
                    return page.has(b, JUMP) && lacksItsWay(page, b);
            }
        }

        private static boolean isNeverEnded(Page page, int start) {
            for (int b = start; b < page.bars; b++) {
                if (b > start && page.has(b, START)) {
                    return true;
                }
                if (page.has(b, END)) {
                    return false;
                }
            }
            return true;
        }

        private static boolean isStrayEnding(Repeats repeats, int b) {
            Repeat repeat = repeats.ofEnding(b);
            return repeat == null || b <= repeat.firstEnd && b != repeat.firstEnding;
        }

        private static boolean isUnlikeItsRepeat(Page page, Repeats repeats, int b) {
            Repeat repeat = repeats.ofEnd(b);
            if (repeat == null || !repeat.hasEndings()) {
                return false;
            }
            return page.value(b, END) != repeat.count || repeats.ofEnding(b + 1) != repeat;
        }

        private static boolean isFirstOfWrongPasses(Page page, Repeats repeats, int b) {
            Repeat repeat = repeats.around(b);
            if (repeat == null || repeat.first != b || !repeat.hasEndings()) {
                return false;
            }
            int seen = 0;
            for (int e = b; e <= repeat.lastEnding; e++) {
                if (repeats.ofEnding(e) == repeat) {
                    int passes = page.value(e, ENDING);
                    if ((seen & passes) != 0) {
                        return true;
                    }
                    seen |= passes;
                }
            }
            int due = (1 << repeat.count) - 1;
            return seen != due || !page.hasPass(repeat.lastEnding, repeat.count);
        }

        private static boolean isSecond(Page page, int kind, int b) {
            return page.has(b, kind) && page.lastWith(kind, 0, b - 1) != NONE;
        }

        private static boolean lacksItsWay(Page page, int b) {
            int from = Jump.target(page, b);
            int way = Jump.way(page.value(b, JUMP));
            if (way == Jump.TO_FINE) {
                return page.lastWith(FINE, from, b) == NONE;
            }
            if (way == Jump.OVER_TO_CODA) {
                return page.lastWith(OVER, from, b) == NONE || page.lastWith(CODA, b + 1, page.bars - 1) == NONE;
            }
            return false;
        }
    }

    /** The bars as they are played, on a page without a fault. */
    private static final class Road {
        private final int[] order;
        int number;
        private boolean jumped;
        private boolean wentOver;
        private int way;
        private boolean taken;

        Road(int bars) {
            order = new int[bars * MOST_TIMES];
        }

        void walk(Page page, Repeats repeats) {
            number = 0;
            jumped = false;
            wentOver = false;
            way = 0;
            taken = true;
            repeats.resetPasses();
            int coming = 0;
            while (coming != NONE && number < order.length) {
                int b = insteadOf(coming, page, repeats);
                // Both what comes behind the bar and its own ending change passes, so this is settled first.
                boolean again = isToComeAgain(b, repeats);
                leaveRepeatAtLastPass(b, page, repeats);
                order[number] = b;
                number++;
                coming = behind(b, again, page, repeats);
            }
        }

        private int insteadOf(int b, Page page, Repeats repeats) {
            Repeat repeat = repeats.ofEnding(b);
            if (repeat == null) {
                return b;
            }
            int due = taken ? repeat.pass : repeat.count;
            int ending = b;
            for (int e = b; e <= repeat.lastEnding; e++) {
                if (repeats.ofEnding(e) == repeat) {
                    ending = e;
                    if (page.hasPass(e, due)) {
                        return e;
                    }
                }
            }
            return ending;
        }

        private boolean isToComeAgain(int b, Repeats repeats) {
            Repeat repeat = repeats.around(b);
            return taken && repeat != null && repeat.pass < repeat.count;
        }

        private static void leaveRepeatAtLastPass(int b, Page page, Repeats repeats) {
            Repeat repeat = repeats.ofEnding(b);
            if (repeat != null && page.hasPass(b, repeat.count)) {
                repeat.pass = 1;
            }
        }

        private int behind(int b, boolean again, Page page, Repeats repeats) {
            Repeat repeat = repeats.ofEnd(b);
            if (repeat != null && taken) {
                if (repeat.pass < repeat.count) {
                    repeat.pass++;
                    return repeat.first;
                }
                repeat.pass = 1;
            }
            if (!again) {
                if (jumped && way == Jump.TO_FINE && page.has(b, FINE)) {
                    return NONE;
                }
                if (jumped && way == Jump.OVER_TO_CODA && !wentOver && page.has(b, OVER)) {
                    wentOver = true;
                    return page.lastWith(CODA, 0, page.bars - 1);
                }
                if (!jumped && page.has(b, JUMP)) {
                    return jumpFrom(b, page, repeats);
                }
            }
            return page.hasBar(b + 1) ? b + 1 : NONE;
        }

        private int jumpFrom(int b, Page page, Repeats repeats) {
            int value = page.value(b, JUMP);
            jumped = true;
            way = Jump.way(value);
            taken = Jump.hasRepeats(value);
            repeats.resetPasses();
            return Jump.target(page, b);
        }

        int barOf(int i) {
            return isWithin(i, 0, number - 1) ? order[i] : NONE;
        }

        int timesUpTo(int i) {
            int times = 0;
            for (int j = 0; j <= i && j < number; j++) {
                if (order[j] == barOf(i)) {
                    times++;
                }
            }
            return times;
        }

        /** Where a bar is played for the k-th time, or NONE. */
        int indexOf(int b, int k) {
            int times = 0;
            for (int i = 0; i < number; i++) {
                if (order[i] == b) {
                    times++;
                    if (times == k) {
                        return i;
                    }
                }
            }
            return NONE;
        }

        long ticksTo(Page page, int i) {
            long ticks = 0;
            for (int j = 0; j < i && j < number; j++) {
                ticks += ticksOf(page, order[j]);
            }
            return ticks;
        }

        /** Which played bar sounds at a tick, or NONE. */
        int indexAt(Page page, long tick) {
            if (tick < 0) {
                return NONE;
            }
            long end = 0;
            for (int i = 0; i < number; i++) {
                end += ticksOf(page, order[i]);
                if (tick < end) {
                    return i;
                }
            }
            return NONE;
        }

        private static long ticksOf(Page page, int b) {
            return (long) page.lengthOf(b) * page.tempoOf(b);
        }
    }

    /** A note on the page. */
    private static final class Note {
        final int part;
        final int bar;
        final int start;
        final int length;
        int pitch;
        final boolean tie;

        Note(int part, int bar, int start, int length, int pitch, boolean tie) {
            this.part = part;
            this.bar = bar;
            this.start = start;
            this.length = length;
            this.pitch = pitch;
            this.tie = tie;
        }

        int end() {
            return start + length;
        }

        boolean isIn(int otherPart, int otherBar) {
            return part == otherPart && bar == otherBar;
        }

        boolean reachesOver(Page page) {
            return tie && end() == page.lengthOf(bar);
        }

        boolean isBehind(Note other) {
            if (part != other.part) {
                return part > other.part;
            }
            if (bar != other.bar) {
                return bar > other.bar;
            }
            return start != other.start ? start > other.start : pitch > other.pitch;
        }
    }

    /**
     * All notes of the page, by part, bar, start and pitch: so sounds come in their order by themselves, and
     * a part that is transposed keeps it.
     */
    private static final class Notes {
        private final Note[] row;
        int number;

        Notes() {
            row = new Note[MOST_NOTES];
        }

        boolean isFull() {
            return number >= row.length;
        }

        void add(Note note) {
            if (isFull()) {
                return;
            }
            int place = number;
            while (place > 0 && row[place - 1].isBehind(note)) {
                row[place] = row[place - 1];
                place--;
            }
            row[place] = note;
            number++;
        }

        Note get(int n) {
            return isWithin(n, 0, number - 1) ? row[n] : null;
        }

        Note seek(int part, int b, int start, int pitch) {
            for (int n = 0; n < number; n++) {
                Note note = row[n];
                if (note.isIn(part, b) && note.start == start && note.pitch == pitch) {
                    return note;
                }
            }
            return null;
        }

        boolean isRest(int part, int b) {
            for (int n = 0; n < number; n++) {
                if (row[n].isIn(part, b)) {
                    return false;
                }
            }
            return true;
        }

        /** Where the last note of a bar ends, whatever its part. */
        int endIn(int b) {
            int end = 0;
            for (int n = 0; n < number; n++) {
                if (row[n].bar == b) {
                    end = Math.max(end, row[n].end());
                }
            }
            return end;
        }

        boolean canShift(int part, int steps) {
            for (int n = 0; n < number; n++) {
                if (row[n].part == part) {
                    long pitch = (long) row[n].pitch + steps;
                    if (pitch < 0 || pitch > MOST_PITCH) {
                        return false;
                    }
                }
            }
            return true;
        }

        int shift(int part, int steps) {
            int shifted = 0;
            for (int n = 0; n < number; n++) {
                if (row[n].part == part) {
                    row[n].pitch += steps;
                    shifted++;
                }
            }
            return shifted;
        }

        /** The note that goes on with a note's sound when that bar is played next, or null. */
        Note goingOn(Note note, Page page, int nextBar) {
            return note.reachesOver(page) ? seek(note.part, nextBar, 0, note.pitch) : null;
        }

        /** Whether a note goes on with a sound when that bar was played before its own. */
        boolean isGoingOn(Note note, Page page, int barBefore) {
            if (note.start != 0) {
                return false;
            }
            for (int n = 0; n < number; n++) {
                Note other = row[n];
                if (other.isIn(note.part, barBefore) && other.pitch == note.pitch && other.reachesOver(page)) {
                    return true;
                }
            }
            return false;
        }
    }

    /** The sounds of one part: of each its first note, and as which played bar that comes. */
    private static final class Sounding {
        private final Note[] firsts;
        private final int[] indexes;
        int number;
        private int knownPart;

        Sounding() {
            firsts = new Note[MOST_NOTES * MOST_TIMES];
            indexes = new int[MOST_NOTES * MOST_TIMES];
            knownPart = NONE;
        }

        void forget() {
            knownPart = NONE;
        }

        void know(int part, Page page, Notes notes, Road road) {
            if (knownPart == part) {
                return;
            }
            number = 0;
            for (int i = 0; i < road.number; i++) {
                gather(part, i, page, notes, road);
            }
            knownPart = part;
        }

        private void gather(int part, int i, Page page, Notes notes, Road road) {
            for (int n = 0; n < notes.number && number < firsts.length; n++) {
                Note note = notes.get(n);
                if (note != null && note.isIn(part, road.barOf(i))
                        && !notes.isGoingOn(note, page, road.barOf(i - 1))) {
                    firsts[number] = note;
                    indexes[number] = i;
                    number++;
                }
            }
        }

        private Note firstOf(int s) {
            return isWithin(s, 0, number - 1) ? firsts[s] : null;
        }

        long beginOf(int s, Page page, Road road) {
            Note note = firstOf(s);
            if (note == null) {
                return NONE;
            }
            return road.ticksTo(page, indexes[s]) + (long) note.start * page.tempoOf(note.bar);
        }

        int pitchOf(int s) {
            Note note = firstOf(s);
            return note == null ? NONE : note.pitch;
        }

        /** A sound's length in ticks or in sixteenths. */
        long lengthOf(int s, boolean inTicks, Page page, Notes notes, Road road) {
            Note note = firstOf(s);
            if (note == null) {
                return NONE;
            }
            long length = 0;
            for (int i = indexes[s]; note != null && i < road.number; i++) {
                length += (long) note.length * (inTicks ? page.tempoOf(note.bar) : 1);
                note = notes.goingOn(note, page, road.barOf(i + 1));
            }
            return length;
        }
    }
}
