import java.util.ArrayList;
import java.util.List;
import java.util.function.Supplier;
import java.util.function.ToLongFunction;

/**
 * Each refused call, after which every answer is as it was before: a page that has had the call is held against
 * a twin that has not. Each round of questions gets twins of its own, since an object has but 512 calls.
 */
public final class RefusedCallsTest extends Dues {
    private static final int[] MOST = {1, 4, 15, 1, 1, 1, 1, 12, 1, 1};
    private static final int ASKED_BARS = 60;
    private static final int ASKED_SOUNDS = 28;

    private record Call(String words, String outcome, ToLongFunction<ScoreRoads> call) {
    }

    private record Round(String name, ToLongFunction<ScoreRoads> first, Questions questions) {
    }

    private interface Questions {
        void ask(ScoreRoads x, int bars, StringBuilder answers);
    }

    public static void main(String[] args) {
        test(RefusedCallsTest::aPageOfOneBar);
        test(RefusedCallsTest::aPageOfOneBarWithANote);
        test(RefusedCallsTest::aPageOfAnyOtherNumber);
        test(RefusedCallsTest::aRoadWithAll);
        test(RefusedCallsTest::twentyBarsAndFortyNotes);
        test(RefusedCallsTest::aPageWithAFault);
        test(RefusedCallsTest::signsPutAndTakenAway);
        end();
    }

    private static void aPageOfOneBar() {
        sentence("Promises 2 to 16, refused calls", "a page of one bar, no notes");
        List<Call> calls = new ArrayList<>();
        addWrongArguments(calls, 1);
        addNotSoMany(calls, 1);
        addUnchanging(calls, "transpose without notes", "0", x -> x.transpose(0, HIGHEST));
        hold(() -> new ScoreRoads(1), 1, x -> 0, calls);
    }

    private static void aPageOfOneBarWithANote() {
        sentence("Promises 2 to 16, refused calls", "a page of one bar, a note over all of it");
        Supplier<ScoreRoads> page = () -> {
            ScoreRoads x = roads(1, 0, START, 1, 0, END, 4, 0, JUMP, 7);
            x.note(1, 0, 0, 16, 127, true);
            return x;
        };
        List<Call> calls = new ArrayList<>();
        addWrongArguments(calls, 1);
        addNotSoMany(calls, 8);
        refuse(calls, "bar shorter than the note", STATE, x -> doBar(x, 0, 15, 7));
        refuse(calls, "another END", STATE, x -> doSign(x, 0, END, 2));
        refuse(calls, "another JUMP", STATE, x -> doSign(x, 0, JUMP, 12));
        refuse(calls, "the same note", STATE, x -> x.note(1, 0, 0, 1, 127, false));
        refuse(calls, "transpose too high", ARGUMENT, x -> x.transpose(1, 1));
        refuse(calls, "transpose too low", ARGUMENT, x -> x.transpose(1, -128));
        refuse(calls, "transpose far", ARGUMENT, x -> x.transpose(1, HIGHEST));
        addUnchanging(calls, "the same END", "0", x -> doSign(x, 0, END, 4));
        addUnchanging(calls, "transpose by 0", "1", x -> x.transpose(1, 0));
        hold(page, 1, x -> 0, calls);
    }

    private static void aPageOfAnyOtherNumber() {
        sentence("Promises 2 to 16, refused calls", "a page of 12 bars, for any other number");
        List<Call> calls = new ArrayList<>();
        addWrongArguments(calls, 12);
        addNotSoMany(calls, 12);
        hold(() -> new ScoreRoads(21), 12, x -> 0, calls);
    }

    private static ScoreRoads roadWithAll() {
        ScoreRoads x = roads(9, 0, SEGNO, 1, 1, START, 1, 2, ENDING, 5, 2, END, 4, 3, ENDING, 2, 3, END, 4,
                4, ENDING, 8, 5, OVER, 1, 6, JUMP, 12, 7, LETTER, 1, 8, CODA, 1, 8, DOUBLE, 1);
        x.bar(2, 8, 999);
        x.bar(5, 20, 3);
        x.note(0, 1, 12, 4, 60, true);
        x.note(0, 2, 0, 8, 60, true);
        x.note(0, 3, 0, 2, 60, false);
        x.note(0, 5, 19, 1, 90, true);
        x.note(0, 8, 0, 16, 90, false);
        x.note(2, 5, 0, 20, 0, true);
        x.transpose(0, 37);
        return x;
    }

    private static void aRoadWithAll() {
        sentence("Promises 2 to 16, refused calls", "a road with repeats, endings, a jump and ties");
        List<Call> calls = new ArrayList<>();
        addWrongArguments(calls, 9);
        addNotSoMany(calls, roadWithAll().plays());
        refuse(calls, "bar 2 shorter than its note", STATE, x -> doBar(x, 2, 7, 999));
        refuse(calls, "bar 5 shorter than its notes", STATE, x -> doBar(x, 5, 19, 1));
        refuse(calls, "bar 5 as at first", STATE, x -> doBar(x, 5, 16, 10));
        refuse(calls, "another END", STATE, x -> doSign(x, 3, END, 3));
        refuse(calls, "another ENDING", STATE, x -> doSign(x, 2, ENDING, 4));
        refuse(calls, "another JUMP", STATE, x -> doSign(x, 6, JUMP, 1));
        refuse(calls, "the same note", STATE, x -> x.note(0, 1, 12, 4, 97, true));
        refuse(calls, "the same note, shorter", STATE, x -> x.note(2, 5, 0, 1, 0, false));
        refuse(calls, "transpose the highest too high", ARGUMENT, x -> x.transpose(0, 1));
        refuse(calls, "transpose the lowest too low", ARGUMENT, x -> x.transpose(0, -98));
        refuse(calls, "transpose 0 too low", ARGUMENT, x -> x.transpose(2, -1));
        addUnchanging(calls, "the same SEGNO", "0", x -> doSign(x, 0, SEGNO, 1));
        addUnchanging(calls, "no FINE to take", "0", x -> doSign(x, 0, FINE, 0));
        addUnchanging(calls, "the same bar", "0", x -> doBar(x, 5, 20, 3));
        hold(RefusedCallsTest::roadWithAll, 9, x -> 0, calls);
    }

    private static ScoreRoads fullPage() {
        ScoreRoads x = roads(20, 9, END, 2, 12, FINE, 1, 19, JUMP, 9);
        for (int n = 0; n < 40; n++) {
            x.note(n % 3, n % 20, 0, 16, n, n % 2 == 0);
        }
        return x;
    }

    private static void twentyBarsAndFortyNotes() {
        sentence("Promises 2 to 16, refused calls", "a page of 20 bars, 40 notes");
        List<Call> calls = new ArrayList<>();
        addWrongArguments(calls, 20);
        addNotSoMany(calls, fullPage().plays());
        refuse(calls, "the 41st note", STATE, x -> x.note(0, 1, 5, 1, 100, true));
        refuse(calls, "the 41st note in the last bar", STATE, x -> x.note(2, 19, 15, 1, 127, true));
        refuse(calls, "a note that is there", STATE, x -> x.note(0, 0, 0, 16, 0, true));
        refuse(calls, "bar 19 shorter than its notes", STATE, x -> doBar(x, 19, 15, 10));
        refuse(calls, "transpose 39 too high", ARGUMENT, x -> x.transpose(0, 89));
        refuse(calls, "transpose 0 too low", ARGUMENT, x -> x.transpose(0, -1));
        hold(RefusedCallsTest::fullPage, 20, x -> 0, calls);
    }

    private static ScoreRoads faultyPage() {
        ScoreRoads x = roads(5, 1, END, 3, 4, START, 1, 3, JUMP, 1);
        x.bar(0, 7, 11);
        x.note(0, 0, 0, 7, 60, true);
        x.note(0, 1, 0, 16, 60, true);
        x.note(1, 4, 3, 2, 0, false);
        return x;
    }

    private static void aPageWithAFault() {
        sentence("Promises 2 to 16, refused calls", "a page with a fault");
        List<Call> calls = new ArrayList<>();
        addWrongArguments(calls, 5);
        int[] indexes = {0, -1, 5, LOWEST, HIGHEST};
        for (int i : indexes) {
            refuse(calls, "played " + i, STATE, x -> x.played(i));
            refuse(calls, "time " + i, STATE, x -> x.time(i));
            refuse(calls, "find " + i, STATE, x -> x.find(i, 1));
            refuse(calls, "tick " + i, STATE, x -> x.tick(i));
            refuse(calls, "at " + i, STATE, x -> x.at(i));
            refuse(calls, "sound " + i, STATE, x -> x.sound(0, i, 0));
        }
        for (int part = 0; part <= 2; part++) {
            int p = part;
            refuse(calls, "sounds of part " + part, STATE, x -> x.sounds(p));
        }
        refuse(calls, "at the end of long", STATE, x -> x.at(Long.MAX_VALUE));
        refuse(calls, "bar 0 shorter than its note", STATE, x -> doBar(x, 0, 6, 11));
        refuse(calls, "another END", STATE, x -> doSign(x, 1, END, 2));
        refuse(calls, "the same note", STATE, x -> x.note(1, 4, 3, 1, 0, true));
        refuse(calls, "transpose 0 too low", ARGUMENT, x -> x.transpose(1, -1));
        addUnchanging(calls, "plays", "-1", ScoreRoads::plays);
        addUnchanging(calls, "check", "104", ScoreRoads::check);
        hold(RefusedCallsTest::faultyPage, 5, x -> 0, calls);
        hold(RefusedCallsTest::faultyPage, 5, x -> doSign(x, 4, START, 0), calls);
    }

    private static void signsPutAndTakenAway() {
        sentence("Promise 3", "takes it away (every answer is as it was before the sign was put)");
        putAndTake(() -> new ScoreRoads(1), 1);
        putAndTake(RefusedCallsTest::roadWithAll, 9);
        putAndTake(RefusedCallsTest::fullPage, 20);
        putAndTake(RefusedCallsTest::faultyPage, 5);
    }

    private static void putAndTake(Supplier<ScoreRoads> page, int bars) {
        List<Call> calls = new ArrayList<>();
        for (int b = 0; b < bars; b += Math.max(bars - 1, 1)) {
            for (int kind = 0; kind < KINDS; kind++) {
                if (page.get().signAt(b, kind) == 0) {
                    addPutAndTaken(calls, b, kind);
                }
            }
        }
        for (Round round : rounds()) {
            String before = answers(page.get(), bars, x -> 0, round);
            for (Call call : calls) {
                holdOne(page, bars, x -> 0, round, call, before);
            }
        }
    }

    private static void addPutAndTaken(List<Call> calls, int b, int kind) {
        addUnchanging(calls, "kind " + kind + " put and taken in bar " + b, "1", x -> {
            x.sign(b, kind, MOST[kind]);
            soundsOrNone(x);
            return doSign(x, b, kind, 0);
        });
    }

    private static void refuse(List<Call> calls, String words, Class<?> by, ToLongFunction<ScoreRoads> call) {
        calls.add(new Call(words, "throws." + by.getSimpleName(), call));
    }

    private static void addUnchanging(List<Call> calls, String words, String outcome, ToLongFunction<ScoreRoads> call) {
        calls.add(new Call(words, outcome, call));
    }

    private static void addWrongArguments(List<Call> calls, int bars) {
        int[] noBars = {-1, bars, LOWEST, HIGHEST};
        for (int b : noBars) {
            refuse(calls, "bar " + b, ARGUMENT, x -> doBar(x, b, 1, 1));
            refuse(calls, "put in bar " + b, ARGUMENT, x -> doSign(x, b, START, 1));
            refuse(calls, "take in bar " + b, ARGUMENT, x -> doSign(x, b, START, 0));
            refuse(calls, "note in bar " + b, ARGUMENT, x -> x.note(0, b, 0, 1, 60, false));
            addUnchanging(calls, "signAt bar " + b, "0", x -> x.signAt(b, START));
        }
        int[] noKinds = {-1, 10, LOWEST, HIGHEST};
        for (int kind : noKinds) {
            refuse(calls, "put kind " + kind, ARGUMENT, x -> doSign(x, 0, kind, 1));
            refuse(calls, "take kind " + kind, ARGUMENT, x -> doSign(x, 0, kind, 0));
        }
        for (int kind = 0; kind < KINDS; kind++) {
            int k = kind;
            refuse(calls, "kind " + kind + " too large", ARGUMENT, x -> doSign(x, 0, k, MOST[k] + 1));
            refuse(calls, "kind " + kind + " too small", ARGUMENT, x -> doSign(x, 0, k, k == END ? 1 : -1));
        }
        addWrongLengths(calls);
        addWrongParts(calls);
    }

    private static void addWrongLengths(List<Call> calls) {
        int[] noLengths = {0, 33, LOWEST, HIGHEST};
        for (int length : noLengths) {
            refuse(calls, "bar length " + length, ARGUMENT, x -> doBar(x, 0, length, 1));
            refuse(calls, "note length " + length, ARGUMENT, x -> x.note(0, 0, 0, length, 60, true));
        }
        int[] noTempos = {0, 1001, LOWEST, HIGHEST};
        for (int tempo : noTempos) {
            refuse(calls, "tempo " + tempo, ARGUMENT, x -> doBar(x, 0, 32, tempo));
        }
        int[] noStarts = {-1, 32, LOWEST, HIGHEST};
        for (int start : noStarts) {
            refuse(calls, "note start " + start, ARGUMENT, x -> x.note(0, 0, start, 1, 60, true));
        }
        int[] noPitches = {-1, 128, LOWEST, HIGHEST};
        for (int pitch : noPitches) {
            refuse(calls, "note pitch " + pitch, ARGUMENT, x -> x.note(0, 0, 0, 1, pitch, true));
        }
    }

    private static void addWrongParts(List<Call> calls) {
        int[] noParts = {-1, 3, LOWEST, HIGHEST};
        for (int part : noParts) {
            refuse(calls, "note in part " + part, ARGUMENT, x -> x.note(part, 0, 0, 1, 60, false));
            refuse(calls, "transpose part " + part, ARGUMENT, x -> x.transpose(part, 1));
            refuse(calls, "sounds of part " + part, ARGUMENT, x -> x.sounds(part));
            refuse(calls, "sound of part " + part, ARGUMENT, x -> x.sound(part, 0, 0));
            refuse(calls, "rest of part " + part, ARGUMENT, x -> x.rest(part, 0));
        }
    }

    private static void addNotSoMany(List<Call> calls, int plays) {
        int[] noIndexes = {-1, plays, LOWEST, HIGHEST};
        for (int i : noIndexes) {
            refuse(calls, "played " + i, INDEX, x -> x.played(i));
            refuse(calls, "time " + i, INDEX, x -> x.time(i));
            refuse(calls, "tick " + i, INDEX, x -> x.tick(i == plays ? plays + 1 : i));
            addUnchanging(calls, "find " + i, "-1", x -> x.find(i, -1));
            addUnchanging(calls, "rest " + i, "-1", x -> x.rest(0, i == plays ? 99 : i));
        }
        addUnchanging(calls, "at Long.MAX_VALUE", "-1", x -> x.at(Long.MAX_VALUE));
        addUnchanging(calls, "at Long.MIN_VALUE", "-1", x -> x.at(Long.MIN_VALUE));
        addUnchanging(calls, "sound 9999", "-1", x -> x.sound(2, 9999, 0));
        addUnchanging(calls, "what 4", "-1", x -> x.sound(0, 0, 4));
    }

    /** Holds each call alone, and then all in a row. */
    private static void hold(Supplier<ScoreRoads> page, int bars, ToLongFunction<ScoreRoads> mend, List<Call> calls) {
        for (Round round : rounds()) {
            String before = answers(page.get(), bars, mend, round);
            for (Call call : calls) {
                holdOne(page, bars, mend, round, call, before);
            }
            ScoreRoads all = page.get();
            for (Call call : calls) {
                refused(all, call);
            }
            tell(round.name + " behind all", answers(all, bars, mend, round), before);
        }
    }

    /** Holds a call on a page that has not been asked before, and on one that has. */
    private static void holdOne(Supplier<ScoreRoads> page, int bars, ToLongFunction<ScoreRoads> mend, Round round,
            Call call, String before) {
        ScoreRoads fresh = page.get();
        refused(fresh, call);
        tell(round.name + " behind " + call.words, answers(fresh, bars, mend, round), before);
        ScoreRoads asked = page.get();
        round.first.applyAsLong(asked);
        refused(asked, call);
        tell(round.name + " before and behind " + call.words, answers(asked, bars, mend, round), before);
    }

    private static void refused(ScoreRoads x, Call call) {
        tell(call.words, outcome(() -> call.call.applyAsLong(x)), call.outcome);
    }

    private static String answers(ScoreRoads x, int bars, ToLongFunction<ScoreRoads> mend, Round round) {
        StringBuilder answers = new StringBuilder();
        mend.applyAsLong(x);
        round.questions.ask(x, bars, answers);
        return answers.toString();
    }

    private static List<Round> rounds() {
        return List.of(
                new Round("signs", x -> x.signAt(0, 0), RefusedCallsTest::askSigns),
                new Round("road", ScoreRoads::plays, RefusedCallsTest::askRoad),
                new Round("times", ScoreRoads::check, RefusedCallsTest::askTimes),
                new Round("sounds", RefusedCallsTest::soundsOrNone, RefusedCallsTest::askSounds),
                new Round("rests", x -> x.rest(0, 0), RefusedCallsTest::askRests),
                new Round("bars", ScoreRoads::plays, RefusedCallsTest::askBars));
    }

    private static long soundsOrNone(ScoreRoads x) {
        return x.check() == 0 ? x.sounds(0) + x.sounds(2) : NONE;
    }

    private static void askSigns(ScoreRoads x, int bars, StringBuilder answers) {
        for (int b = 0; b < bars; b++) {
            for (int kind = 0; kind < KINDS; kind++) {
                answers.append(' ').append(x.signAt(b, kind));
            }
        }
    }

    private static void askRoad(ScoreRoads x, int bars, StringBuilder answers) {
        answers.append(x.check()).append(' ').append(x.plays());
        int asked = Math.min(x.plays(), ASKED_BARS);
        for (int index = -1; index <= asked; index++) {
            int i = index;
            answers.append(' ').append(outcome(() -> x.played(i)));
            answers.append(' ').append(outcome(() -> x.time(i)));
        }
        for (int b = 0; b < bars; b++) {
            for (int times = 1; times <= 4; times++) {
                int bar = b;
                int k = times;
                answers.append(' ').append(outcome(() -> x.find(bar, k)));
            }
        }
    }

    private static void askTimes(ScoreRoads x, int bars, StringBuilder answers) {
        int asked = Math.min(x.plays(), ASKED_BARS);
        for (int index = -1; index <= asked + 1; index++) {
            int i = index;
            answers.append(' ').append(outcome(() -> x.tick(i)));
            answers.append(' ').append(outcome(() -> x.at(x.tick(i))));
            answers.append(' ').append(outcome(() -> x.at(x.tick(i) - 1)));
        }
    }

    private static void askSounds(ScoreRoads x, int bars, StringBuilder answers) {
        for (int part = 0; part <= 2; part++) {
            int p = part;
            answers.append(" part ").append(outcome(() -> x.sounds(p)));
            for (int sound = 0; sound <= ASKED_SOUNDS; sound++) {
                for (int what = 0; what <= 3; what++) {
                    int i = sound;
                    int w = what;
                    answers.append(' ').append(outcome(() -> x.sound(p, i, w)));
                }
            }
        }
    }

    private static void askRests(ScoreRoads x, int bars, StringBuilder answers) {
        for (int part = 0; part <= 2; part++) {
            // How many notes a part has can be asked by transposing it by nothing.
            answers.append(" part ").append(x.transpose(part, 0));
            for (int i = 0; i <= bars; i++) {
                answers.append(' ').append(x.rest(part, i));
            }
        }
    }

    /** Each bar's length, by the last place that a note finds there, and how many notes there are. */
    private static void askBars(ScoreRoads x, int bars, StringBuilder answers) {
        for (int b = 0; b < bars; b++) {
            int fits = 0;
            for (int step = 16; step > 0; step /= 2) {
                int bar = b;
                int start = fits + step;
                boolean fitting = !outcome(() -> x.note(2, bar, start, 1, 127, false)).contains("Argument");
                fits = fitting ? start : fits;
            }
            answers.append(' ').append(fits + 1);
        }
        answers.append(" notes");
        for (int part = 0; part <= 2; part++) {
            answers.append(' ').append(x.transpose(part, 0));
        }
    }
}
