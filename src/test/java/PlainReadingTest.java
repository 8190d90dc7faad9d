import java.util.ArrayList;
import java.util.Comparator;
import java.util.HashMap;
import java.util.List;
import java.util.Map;
import java.util.Random;
import java.util.TreeSet;
import java.util.function.LongSupplier;

/**
 * Runs of calls from fixed seeds, each answer held against a second, slow reading of the document that keeps
 * nothing and works everything out anew, sentence by sentence.
 */
public final class PlainReadingTest {
    private static final int RUNS = 6000;
    private static final int CALLS = 120;
    private static final int MOST_CALLS = 512;
    private static final int[] EDGES = {Integer.MIN_VALUE, Integer.MIN_VALUE + 1, -1, 0, 1, 2, 3, 10, 12, 13, 16, 20,
        21, 32, 33, 39, 40, 127, 128, 1000, 1001, Integer.MAX_VALUE - 1, Integer.MAX_VALUE};

    private static final int START = 0;
    private static final int END = 1;
    private static final int ENDING = 2;
    private static final int SEGNO = 3;
    private static final int CODA = 4;
    private static final int FINE = 5;
    private static final int OVER = 6;
    private static final int JUMP = 7;

    public static void main(String[] args) {
        int wrong = 0;
        int wellFormed = 0;
        int mostPlays = 0;
        int mostTimes = 0;
        for (int seed = 0; seed < RUNS && wrong < 3; seed++) {
            Run run = new Run(seed);
            wrong += run.go() ? 0 : 1;
            List<Integer> order = run.plain.fault() == 0 ? run.plain.order() : List.of();
            wellFormed += order.isEmpty() ? 0 : 1;
            mostPlays = Math.max(mostPlays, order.size());
            for (int b = 0; b < run.plain.bars; b++) {
                int bar = b;
                mostTimes = Math.max(mostTimes, (int) order.stream().filter(o -> o == bar).count());
            }
        }
        System.out.println(RUNS + " runs, " + wellFormed + " end without a fault, at most " + mostPlays
                + " bars played, one of them " + mostTimes + " times; " + wrong + " runs wrong");
        if (wrong != 0) {
            System.exit(1);
        }
    }

    /** One run: the program and the plain reading get the same calls. */
    private static final class Run {
        final Random random;
        final int seed;
        final Plain plain;
        final ScoreRoads program;
        final List<String> calls = new ArrayList<>();
        boolean right = true;

        Run(int seed) {
            this.seed = seed;
            random = new Random(seed);
            int bars = random.nextInt(10) == 0 ? random.nextInt(26) - 3 : 1 + random.nextInt(20);
            calls.add("new ScoreRoads(" + bars + ")");
            plain = new Plain(bars);
            program = new ScoreRoads(bars);
        }

        boolean go() {
            if (random.nextInt(5) > 0) {
                layMap();
            }
            for (int n = 0; n < CALLS && right; n++) {
                call(random.nextInt(100));
            }
            for (int i = 0; i <= plain.bars * 12 && right; i++) {
                int index = i;
                hold("played(" + i + ")", () -> plain.played(index), () -> program.played(index));
                hold("time(" + i + ")", () -> plain.time(index), () -> program.time(index));
            }
            return right;
        }

        void hold(String call, LongSupplier want, LongSupplier got) {
            // The first of the calls is the constructor; what an object answers behind its 512th call is free.
            if (calls.size() > MOST_CALLS) {
                return;
            }
            String due = answer(want);
            String answered = answer(got);
            calls.add(call + " = " + due);
            if (!due.equals(answered) && right) {
                right = false;
                System.out.println("seed " + seed + ": " + call + " answered " + answered + ", due is " + due);
                System.out.println("  " + String.join("; ", calls));
            }
        }

        static String answer(LongSupplier call) {
            try {
                return Long.toString(call.getAsLong());
            } catch (IllegalStateException | IllegalArgumentException | IndexOutOfBoundsException e) {
                return "throws." + e.getClass().getSimpleName();
            }
        }

        /** Now and then a number at an edge instead, or at the end of int. */
        int edge(int usual) {
            return random.nextInt(40) == 0 ? EDGES[random.nextInt(EDGES.length)] : usual;
        }

        void put(int b, int kind, int value) {
            hold("sign(" + b + ", " + kind + ", " + value + ")", () -> plain.sign(b, kind, value) ? 1 : 0,
                    () -> program.sign(b, kind, value) ? 1 : 0);
        }

        /** Signs that are likely to make a map without a fault, since signs at random hardly ever do. */
        void layMap() {
            int b = 0;
            while (b < plain.bars) {
                int left = plain.bars - b;
                int choice = random.nextInt(4);
                if (choice == 0 || left < 2) {
                    b += 1 + random.nextInt(3);
                } else if (choice == 1) {
                    int end = b + random.nextInt(Math.min(left, 5));
                    layStart(b, end);
                    put(end, END, 2 + random.nextInt(3));
                    b = end + 1;
                } else {
                    b = layEndings(b, left);
                }
            }
            layJump();
        }

        void layStart(int b, int end) {
            if (random.nextInt(3) > 0) {
                put(b + random.nextInt(end - b + 1), START, 1);
            }
        }

        int layEndings(int from, int left) {
            int count = 2 + random.nextInt(3);
            int endings = 2 + random.nextInt(count - 1);
            int[] passes = new int[endings];
            passes[endings - 1] = 1 << (count - 1);
            for (int pass = 1; pass < count; pass++) {
                passes[pass <= endings - 1 && random.nextInt(3) > 0 ? pass - 1 : random.nextInt(endings)]
                        |= 1 << (pass - 1);
            }
            int at = from + random.nextInt(Math.min(left, 4));
            layStart(from, at);
            for (int e = 0; e < endings && at < plain.bars; e++) {
                if (passes[e] != 0) {
                    put(at, ENDING, passes[e]);
                    if (e < endings - 1) {
                        at = Math.min(at + random.nextInt(3), plain.bars - 1);
                        put(at, END, count);
                        at++;
                    }
                }
            }
            return random.nextInt(3) == 0 ? at : at + 1;
        }

        void layJump() {
            if (random.nextInt(5) == 0) {
                return;
            }
            int jump = random.nextInt(plain.bars);
            int segno = random.nextInt(jump + 1);
            put(segno, SEGNO, 1);
            int value = 1 + random.nextInt(12);
            put(jump, JUMP, value);
            int from = (value - 1) % 2 == 1 ? segno : 0;
            put(from + random.nextInt(jump - from + 1), FINE, 1);
            put(from + random.nextInt(jump - from + 1), OVER, 1);
            for (int n = random.nextInt(4); n > 0; n--) {
                put(random.nextInt(plain.bars), OVER, 1);
            }
            put(Math.min(jump + 1 + random.nextInt(plain.bars - jump), plain.bars - 1), CODA, 1);
        }

        void call(int choice) {
            int part = edge(random.nextInt(15) == 0 ? random.nextInt(6) - 2 : random.nextInt(3));
            int b = edge(random.nextInt(15) == 0 ? random.nextInt(25) - 2 : random.nextInt(plain.bars));
            int i = edge(random.nextInt(30) == 0 ? -1 : random.nextInt(plain.bars * 2 + 2));
            if (choice < 4) {
                callSign(b);
            } else if (choice < 10) {
                int length = edge(random.nextInt(8) == 0 ? random.nextInt(36) - 1 : 14 + random.nextInt(4));
                int tempo = edge(random.nextInt(8) == 0 ? random.nextInt(1100) - 40 : 1 + random.nextInt(12));
                hold("bar(" + b + ", " + length + ", " + tempo + ")", () -> plain.bar(b, length, tempo), () -> {
                    program.bar(b, length, tempo);
                    return 0;
                });
            } else if (choice < 45) {
                callNote(part, b);
            } else if (choice < 50) {
                int steps = edge(random.nextInt(6) == 0 ? random.nextInt() : random.nextInt(9) - 4);
                hold("transpose(" + part + ", " + steps + ")", () -> plain.transpose(part, steps),
                        () -> program.transpose(part, steps));
            } else if (choice < 80) {
                ask(choice, part, b, i);
            } else {
                int what = edge(random.nextInt(20) == 0 ? random.nextInt(9) - 3 : random.nextInt(4));
                int s = random.nextBoolean() ? i : random.nextInt(8);
                hold("sound(" + part + ", " + s + ", " + what + ")", () -> plain.sound(part, s, what),
                        () -> program.sound(part, s, what));
            }
        }

        void callSign(int b) {
            int kind = edge(random.nextInt(15) == 0 ? random.nextInt(14) - 2 : random.nextInt(10));
            int old = plain.signAt(b, kind);
            int value = old != 0 && random.nextBoolean() ? 0 : random.nextBoolean() ? 1 : random.nextInt(18) - 1;
            put(b, kind, edge(value));
            // Most of these make a fault, which would hide all that comes behind it.
            if (plain.fault() != 0 && random.nextInt(4) > 0) {
                put(b, kind, 0);
                put(b, kind, old);
            }
            hold("signAt(" + b + ", " + kind + ")", () -> plain.signAt(b, kind), () -> program.signAt(b, kind));
            hold("check()", () -> plain.fault(), () -> program.check());
        }

        void callNote(int part, int b) {
            int start = edge(random.nextInt(3) == 0 ? random.nextInt(20) - 1 : 0);
            int room = plain.lengthOf(b) - start;
            int length = edge(random.nextInt(3) == 0 ? random.nextInt(18) - 1 : room);
            int pitch = edge(random.nextInt(20) == 0 ? random.nextInt(140) - 5 : 60 + random.nextInt(3));
            boolean tie = random.nextInt(4) > 0;
            hold("note(" + part + ", " + b + ", " + start + ", " + length + ", " + pitch + ", " + tie + ")",
                    () -> plain.note(part, b, start, length, pitch, tie),
                    () -> program.note(part, b, start, length, pitch, tie));
        }

        void ask(int choice, int part, int b, int i) {
            long tick = random.nextInt(10) == 0 ? random.nextLong() : random.nextInt(6000) - 5;
            int k = edge(random.nextInt(6) - 1);
            if (choice < 53) {
                hold("check()", () -> plain.fault(), () -> program.check());
            } else if (choice < 56) {
                hold("plays()", () -> plain.plays(), () -> program.plays());
            } else if (choice < 60) {
                hold("tick(" + i + ")", () -> plain.tick(i), () -> program.tick(i));
            } else if (choice < 64) {
                hold("at(" + tick + ")", () -> plain.at(tick), () -> program.at(tick));
            } else if (choice < 68) {
                hold("find(" + b + ", " + k + ")", () -> plain.find(b, k), () -> program.find(b, k));
            } else if (choice < 74) {
                hold("sounds(" + part + ")", () -> plain.sounds(part), () -> program.sounds(part));
            } else {
                int group = edge(random.nextInt(9) - 1);
                hold("rest(" + part + ", " + group + ")", () -> plain.rest(part, group),
                        () -> program.rest(part, group));
            }
        }
    }

    private record Note(int part, int bar, int start, int length, int pitch, boolean tie) {
    }

    private record Sound(long begin, int pitch, long length, long ticks) {
    }

    private static final class Repeat {
        int first;
        final List<Integer> ends = new ArrayList<>();
        final TreeSet<Integer> endings = new TreeSet<>();
        int count;

        int lastEnd() {
            return ends.get(ends.size() - 1);
        }
    }

    /** The second reading. */
    private static final class Plain {
        final int bars;
        final int[] lengths;
        final int[] tempos;
        final Map<List<Integer>, Integer> signs = new HashMap<>();
        List<Note> notes = new ArrayList<>();

        Plain(int wanted) {
            bars = wanted < 1 || wanted > 20 ? 12 : wanted;
            lengths = new int[bars];
            tempos = new int[bars];
            for (int b = 0; b < bars; b++) {
                lengths[b] = 16;
                tempos[b] = 10;
            }
        }

        int lengthOf(int b) {
            return b < 0 || b >= bars ? 16 : lengths[b];
        }

        int signAt(int b, int kind) {
            return signs.getOrDefault(List.of(b, kind), 0);
        }

        boolean has(int b, int kind) {
            return signAt(b, kind) > 0;
        }

        boolean hasBetween(int kind, int from, int to) {
            for (int b = from; b <= to; b++) {
                if (has(b, kind)) {
                    return true;
                }
            }
            return false;
        }

        int only(int kind) {
            for (int b = 0; b < bars; b++) {
                if (has(b, kind)) {
                    return b;
                }
            }
            return -1;
        }

        long bar(int b, int length, int tempo) {
            if (b < 0 || b >= bars || length < 1 || length > 32 || tempo < 1 || tempo > 1000) {
                throw new IllegalArgumentException();
            }
            if (notes.stream().anyMatch(n -> n.bar == b && n.start + n.length > length)) {
                throw new IllegalStateException();
            }
            lengths[b] = length;
            tempos[b] = tempo;
            return 0;
        }

        boolean sign(int b, int kind, int value) {
            if (b < 0 || b >= bars || kind < 0 || kind > 9) {
                throw new IllegalArgumentException();
            }
            int least = kind == END ? 2 : 1;
            int most = kind == END ? 4 : kind == ENDING ? 15 : kind == JUMP ? 12 : 1;
            if (value != 0 && (value < least || value > most)) {
                throw new IllegalArgumentException();
            }
            if (value == 0) {
                return signs.remove(List.of(b, kind)) != null;
            }
            if (has(b, kind) && signAt(b, kind) != value) {
                throw new IllegalStateException();
            }
            return signs.put(List.of(b, kind), value) == null;
        }

        int note(int part, int b, int start, int length, int pitch, boolean tie) {
            if (part < 0 || part > 2 || b < 0 || b >= bars || pitch < 0 || pitch > 127 || start < 0 || length < 1
                    || (long) start + length > lengths[b]) {
                throw new IllegalArgumentException();
            }
            if (notes.size() == 40 || notes.stream().anyMatch(
                    n -> n.part == part && n.bar == b && n.start == start && n.pitch == pitch)) {
                throw new IllegalStateException();
            }
            notes.add(new Note(part, b, start, length, pitch, tie));
            return notes.size();
        }

        int transpose(int part, int steps) {
            needPart(part);
            List<Note> after = new ArrayList<>();
            int moved = 0;
            for (Note n : notes) {
                if (n.part != part) {
                    after.add(n);
                    continue;
                }
                long pitch = (long) n.pitch + steps;
                if (pitch < 0 || pitch > 127) {
                    throw new IllegalArgumentException();
                }
                after.add(new Note(part, n.bar, n.start, n.length, (int) pitch, n.tie));
                moved++;
            }
            notes = after;
            return moved;
        }

        List<Repeat> repeats() {
            List<Repeat> found = new ArrayList<>();
            int before = -1;
            for (int e = 0; e < bars; e++) {
                if (!has(e, END)) {
                    continue;
                }
                boolean goesOn = before >= 0 && has(before + 1, ENDING) && !hasBetween(START, before + 1, e);
                if (!goesOn) {
                    Repeat repeat = new Repeat();
                    repeat.first = before >= 0 ? before + 1 : 0;
                    for (int b = 0; b <= e; b++) {
                        if (has(b, START) && b > before) {
                            repeat.first = b;
                        }
                    }
                    repeat.count = signAt(e, END);
                    found.add(repeat);
                }
                found.get(found.size() - 1).ends.add(e);
                before = e;
            }
            List<Integer> given = new ArrayList<>();
            for (Repeat repeat : found) {
                for (int b = repeat.first; b <= repeat.ends.get(0); b++) {
                    if (has(b, ENDING) && !given.contains(b)) {
                        repeat.endings.add(b);
                    }
                }
                if (!repeat.endings.isEmpty()) {
                    for (int e : repeat.ends) {
                        if (has(e + 1, ENDING) && !given.contains(e + 1)) {
                            repeat.endings.add(e + 1);
                        }
                    }
                }
                given.addAll(repeat.endings);
            }
            return found;
        }

        int fault() {
            List<Repeat> repeats = repeats();
            TreeSet<Integer> faults = new TreeSet<>();
            for (int b = 0; b < bars; b++) {
                addBarFaults(faults, repeats, b);
            }
            for (Repeat repeat : repeats) {
                addRepeatFaults(faults, repeat);
            }
            int jump = only(JUMP);
            if (faults.isEmpty() && jump >= 0) {
                addJumpFaults(faults, jump);
            }
            return faults.isEmpty() ? 0 : faults.first();
        }

        void addBarFaults(TreeSet<Integer> faults, List<Repeat> repeats, int b) {
            if (has(b, START)) {
                int next = b + 1;
                while (next < bars && !has(next, START)) {
                    next++;
                }
                if (!hasBetween(END, b, next - 1)) {
                    faults.add(100 + b);
                }
            }
            if (has(b, ENDING) && repeats.stream().noneMatch(r -> r.endings.contains(b))) {
                faults.add(200 + b);
            }
            for (int kind : new int[] {SEGNO, CODA, JUMP}) {
                if (has(b, kind) && hasBetween(kind, 0, b - 1)) {
                    faults.add(500 + b);
                }
            }
        }

        void addRepeatFaults(TreeSet<Integer> faults, Repeat repeat) {
            if (repeat.endings.isEmpty()) {
                return;
            }
            for (int e : repeat.endings) {
                if (e <= repeat.ends.get(0) && e > repeat.endings.first()) {
                    faults.add(200 + e);
                }
            }
            for (int e : repeat.ends) {
                if (signAt(e, END) != repeat.count || repeat.endings.higher(e) == null) {
                    faults.add(300 + e);
                }
            }
            for (int pass = 1; pass <= 4; pass++) {
                int times = 0;
                for (int e : repeat.endings) {
                    times += signAt(e, ENDING) >> (pass - 1) & 1;
                }
                if (times != (pass <= repeat.count ? 1 : 0)) {
                    faults.add(400 + repeat.first);
                }
            }
            if ((signAt(repeat.endings.last(), ENDING) >> (repeat.count - 1) & 1) == 0) {
                faults.add(400 + repeat.first);
            }
        }

        void addJumpFaults(TreeSet<Integer> faults, int jump) {
            int value = signAt(jump, JUMP) - 1;
            int from = value % 2 == 0 ? 0 : only(SEGNO);
            int how = value / 2 % 3;
            if (from < 0 || from > jump) {
                faults.add(600 + jump);
            } else if (how == 1 && !hasBetween(FINE, from, jump)) {
                faults.add(700 + jump);
            } else if (how == 2 && (!hasBetween(OVER, from, jump) || !hasBetween(CODA, jump + 1, bars - 1))) {
                faults.add(700 + jump);
            }
        }

        List<Integer> order() {
            List<Repeat> repeats = repeats();
            Map<Repeat, Integer> pass = new HashMap<>();
            repeats.forEach(r -> pass.put(r, 1));
            List<Integer> order = new ArrayList<>();
            int jumpValue = only(JUMP) < 0 ? 0 : signAt(only(JUMP), JUMP) - 1;
            int how = jumpValue / 2 % 3;
            boolean before = true;
            boolean overDone = false;
            int b = 0;
            while (b < bars) {
                if (order.size() > 100000) {
                    throw new AssertionError("no end");
                }
                boolean taken = before || jumpValue >= 6;
                if (has(b, ENDING)) {
                    int bar = b;
                    Repeat of = repeats.stream().filter(r -> r.endings.contains(bar)).findFirst().orElseThrow();
                    int wanted = taken ? pass.get(of) : of.count;
                    boolean misses = (signAt(b, ENDING) >> (wanted - 1) & 1) == 0;
                    if (misses && of.endings.higher(b) != null) {
                        b = of.endings.higher(b);
                        continue;
                    }
                }
                boolean again = false;
                for (Repeat r : repeats) {
                    again |= taken && b >= r.first && b <= r.lastEnd() && pass.get(r) < r.count;
                }
                for (Repeat r : repeats) {
                    if (r.endings.contains(b) && (signAt(b, ENDING) >> (r.count - 1) & 1) == 1) {
                        pass.put(r, 1);
                    }
                }
                order.add(b);
                Repeat back = null;
                for (Repeat r : repeats) {
                    if (r.ends.contains(b) && taken) {
                        if (pass.get(r) < r.count) {
                            back = r;
                            pass.put(r, pass.get(r) + 1);
                        } else {
                            pass.put(r, 1);
                        }
                    }
                }
                if (back != null) {
                    b = back.first;
                } else if (!before && how == 1 && has(b, FINE) && !again) {
                    break;
                } else if (!before && how == 2 && has(b, OVER) && !again && !overDone) {
                    overDone = true;
                    b = only(CODA);
                } else if (has(b, JUMP) && before && !again) {
                    before = false;
                    b = jumpValue % 2 == 0 ? 0 : only(SEGNO);
                    repeats.forEach(r -> pass.put(r, 1));
                } else {
                    b++;
                }
            }
            return order;
        }

        List<Integer> need() {
            if (fault() != 0) {
                throw new IllegalStateException();
            }
            return order();
        }

        int plays() {
            return fault() != 0 ? -1 : order().size();
        }

        int played(int i) {
            return need().get(i);
        }

        int time(int i) {
            List<Integer> order = need();
            int b = order.get(i);
            return (int) order.subList(0, i + 1).stream().filter(o -> o == b).count();
        }

        int find(int b, int k) {
            List<Integer> order = need();
            for (int i = 0; i < order.size(); i++) {
                if (order.get(i) == b && time(i) == k) {
                    return i;
                }
            }
            return -1;
        }

        long tick(int i) {
            long ticks = 0;
            List<Integer> order = need();
            if (i < 0 || i > order.size()) {
                throw new IndexOutOfBoundsException();
            }
            for (int b : order.subList(0, i)) {
                ticks += lengths[b] * tempos[b];
            }
            return ticks;
        }

        int at(long tick) {
            int number = need().size();
            for (int i = 0; i < number; i++) {
                if (tick >= tick(i) && tick < tick(i + 1)) {
                    return i;
                }
            }
            return -1;
        }

        static void needPart(int part) {
            if (part < 0 || part > 2) {
                throw new IllegalArgumentException();
            }
        }

        boolean leads(Note from, Note to) {
            return from.tie && from.start + from.length == lengths[from.bar] && to.start == 0
                    && to.pitch == from.pitch && to.part == from.part;
        }

        List<Sound> allSounds(int part) {
            needPart(part);
            List<Integer> order = need();
            List<Sound> sounds = new ArrayList<>();
            for (int i = 0; i < order.size(); i++) {
                int b = order.get(i);
                int last = i == 0 ? -1 : order.get(i - 1);
                for (Note n : notes) {
                    if (n.part == part && n.bar == b
                            && notes.stream().noneMatch(m -> m.bar == last && leads(m, n))) {
                        sounds.add(soundFrom(n, i, order));
                    }
                }
            }
            sounds.sort(Comparator.comparingLong(Sound::begin).thenComparingInt(Sound::pitch));
            return sounds;
        }

        Sound soundFrom(Note first, int i, List<Integer> order) {
            long length = 0;
            long ticks = 0;
            Note now = first;
            for (int j = i; now != null; j++) {
                length += now.length;
                ticks += now.length * tempos[now.bar];
                Note from = now;
                int next = j + 1 < order.size() ? order.get(j + 1) : -1;
                now = notes.stream().filter(m -> m.bar == next && leads(from, m)).findFirst().orElse(null);
            }
            return new Sound(tick(i) + first.start * tempos[first.bar], first.pitch, length, ticks);
        }

        int sounds(int part) {
            return allSounds(part).size();
        }

        long sound(int part, int i, int what) {
            List<Sound> sounds = allSounds(part);
            if (i < 0 || i >= sounds.size() || what < 0 || what > 3) {
                return -1;
            }
            Sound s = sounds.get(i);
            return what == 0 ? s.begin : what == 1 ? s.pitch : what == 2 ? s.length : s.ticks;
        }

        int rest(int part, int i) {
            needPart(part);
            List<Integer> groups = new ArrayList<>();
            boolean open = false;
            for (int b = 0; b < bars; b++) {
                int bar = b;
                boolean silent = notes.stream().noneMatch(n -> n.part == part && n.bar == bar);
                boolean cut = b == 0 || lengths[b] != lengths[b - 1];
                for (int kind : new int[] {0, 2, 3, 4, 8}) {
                    cut |= has(b, kind);
                }
                for (int kind : new int[] {1, 5, 6, 7, 9}) {
                    cut |= has(b - 1, kind);
                }
                if (silent && open && !cut) {
                    groups.set(groups.size() - 1, groups.get(groups.size() - 1) + 1);
                } else if (silent) {
                    groups.add(100 * b + 1);
                }
                open = silent;
            }
            return i < 0 || i >= groups.size() ? -1 : groups.get(i);
        }
    }
}
