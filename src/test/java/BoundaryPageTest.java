/** The boundary cases of the page and of what is put on it: a method for each sentence, promises 1 to 6. */
public final class BoundaryPageTest extends Dues {
    private static final int[] LEAST = {1, 2, 1, 1, 1, 1, 1, 1, 1, 1};
    private static final int[] MOST = {1, 4, 15, 1, 1, 1, 1, 12, 1, 1};
    private static final int[] NO_PARTS = {-1, 3, LOWEST, HIGHEST};

    public static void main(String[] args) {
        test(BoundaryPageTest::use512Calls);
        test(BoundaryPageTest::use512CallsOfTheDearestKind);
        test(BoundaryPageTest::pageBars);
        test(BoundaryPageTest::pageParts);
        test(BoundaryPageTest::pageLengthBounds);
        test(BoundaryPageTest::pageLengthAtFirst);
        test(BoundaryPageTest::pageTempoBounds);
        test(BoundaryPageTest::pageTempoAtFirst);
        test(BoundaryPageTest::pageOneSignOfEachKind);
        test(BoundaryPageTest::kindsWithOneValue);
        test(BoundaryPageTest::kindEndCount);
        test(BoundaryPageTest::kindEndingPasses);
        test(BoundaryPageTest::kindEndingBits);
        test(BoundaryPageTest::kindJumpValues);
        test(BoundaryPageTest::kindJumpMeanings);
        test(BoundaryPageTest::newPageOfEachNumber);
        test(BoundaryPageTest::newPageOfAnyOtherNumber);
        test(BoundaryPageTest::newPageWithoutSignsAndNotes);
        test(BoundaryPageTest::barNoSuchBar);
        test(BoundaryPageTest::barOutOfBounds);
        test(BoundaryPageTest::barAtTheEndsOfInt);
        test(BoundaryPageTest::barNoteOverTheEnd);
        test(BoundaryPageTest::barNoteOfEachPart);
        test(BoundaryPageTest::signPutsOrTakesAway);
        test(BoundaryPageTest::signNoSuchBar);
        test(BoundaryPageTest::signNoSuchKind);
        test(BoundaryPageTest::signNoSuchValue);
        test(BoundaryPageTest::signAnotherValue);
        test(BoundaryPageTest::signAtNoneSuch);
        test(BoundaryPageTest::signAtWrapsNowhere);
        test(BoundaryPageTest::noteHowMany);
        test(BoundaryPageTest::noteNoSuchPart);
        test(BoundaryPageTest::noteNoSuchBar);
        test(BoundaryPageTest::notePitch);
        test(BoundaryPageTest::noteStart);
        test(BoundaryPageTest::noteLength);
        test(BoundaryPageTest::noteOverTheBarsEnd);
        test(BoundaryPageTest::noteOverTheEndAtTheEndsOfInt);
        test(BoundaryPageTest::noteForty);
        test(BoundaryPageTest::noteFortyOfAllParts);
        test(BoundaryPageTest::noteThereIsOne);
        test(BoundaryPageTest::transposeHowMany);
        test(BoundaryPageTest::transposeNoSuchPart);
        test(BoundaryPageTest::transposeToTheHighestPitch);
        test(BoundaryPageTest::transposeToTheLowestPitch);
        test(BoundaryPageTest::transposeByNoStepsAndWithoutNotes);
        test(BoundaryPageTest::transposeAtTheEndsOfInt);
        end();
    }

    private static void use512Calls() {
        sentence("What it is", "used for at most 512 calls after it has been made");
        ScoreRoads x = new ScoreRoads(20);
        for (int call = 1; call <= 510; call += 2) {
            x.sign(19, END, 2 + call % 3);
            x.sign(19, END, 0);
        }
        due("the 511th", x.sign(19, END, 4), true);
        due("the 512th", x.plays(), 80);
    }

    private static void use512CallsOfTheDearestKind() {
        sentence("What it is", "used for at most 512 calls after it has been made");
        ScoreRoads x = threeWays();
        int calls = 9;
        for (int n = 0; n < 40; n++) {
            x.note(1, 2 + n % 18, 0, 16, n / 18, true);
            calls++;
        }
        // Pitches 0 and 1 go on but for the jump; pitch 2, in bars 2 to 5, begins anew each time: 2 + 2 + 12 sounds.
        for (int s = 0; calls < 511; s++) {
            due("sounds of part " + s % 3, x.sounds(s % 3), s % 3 == 1 ? 16 : 0);
            calls++;
        }
        // The first sounds of the three pitches begin together; the third one goes on from bar 2 to bar 5.
        due("the 512th", x.sound(1, 2, 2), 4 * 16);
    }

    private static void pageBars() {
        sentence("Terms, the page", "BARS 0 .. n - 1");
        for (int n = 1; n <= 20; n++) {
            ScoreRoads x = new ScoreRoads(n);
            int bars = n;
            due("sign in bar 0 of " + n, x.sign(0, LETTER, 1), true);
            due("sign in the last bar of " + n, x.sign(n - 1, DOUBLE, 1), true);
            due("no bar but these", x.signAt(n, LETTER) + x.signAt(-1, DOUBLE), 0);
            x.bar(0, 3, 7);
            x.bar(n - 1, 5, 9);
            due("the last bar's length of " + n, x.tick(n) - x.tick(n - 1), 45);
            due("note in bar 0 of " + n, x.note(0, 0, 0, 1, 60, false), 1);
            due("note in the last bar of " + n, x.note(1, n - 1, 0, 1, 60, false), 2);
            throwsDue("sign in bar " + n, ARGUMENT, () -> doSign(x, bars, LETTER, 1));
            throwsDue("sign in bar -1", ARGUMENT, () -> doSign(x, -1, LETTER, 1));
            throwsDue("bar " + n, ARGUMENT, () -> doBar(x, bars, 16, 10));
            throwsDue("bar -1", ARGUMENT, () -> doBar(x, -1, 16, 10));
            throwsDue("note in bar " + n, ARGUMENT, () -> x.note(0, bars, 0, 1, 60, false));
            throwsDue("note in bar -1", ARGUMENT, () -> x.note(0, -1, 0, 1, 60, false));
        }
    }

    private static void pageParts() {
        sentence("Terms, the page", "PARTS 0 .. 2");
        ScoreRoads x = new ScoreRoads(1);
        for (int part = 0; part <= 2; part++) {
            due("note in part " + part, x.note(part, 0, 0, 1, 60 + part, false), part + 1);
            due("transpose part " + part, x.transpose(part, 1), 1);
            due("sounds of part " + part, x.sounds(part), 1);
            due("sound of part " + part, x.sound(part, 0, 1), 61 + part);
            due("rest of part " + part, x.rest(part, 0), NONE);
        }
        for (int part : NO_PARTS) {
            throwsDue("note in part " + part, ARGUMENT, () -> x.note(part, 0, 0, 1, 70, false));
            throwsDue("transpose part " + part, ARGUMENT, () -> x.transpose(part, 1));
            throwsDue("sounds of part " + part, ARGUMENT, () -> x.sounds(part));
            throwsDue("sound of part " + part, ARGUMENT, () -> x.sound(part, 0, 1));
            throwsDue("rest of part " + part, ARGUMENT, () -> x.rest(part, 0));
        }
    }

    private static void pageLengthBounds() {
        sentence("Terms, the page", "LENGTH in sixteenths, 1 .. 32");
        ScoreRoads x = new ScoreRoads(1);
        for (int length = 1; length <= 32; length++) {
            x.bar(0, length, 10);
            due("length " + length, x.tick(1), 10 * length);
        }
        due("a note of 32 sixteenths", x.note(0, 0, 0, 32, 60, false), 1);
        ScoreRoads y = new ScoreRoads(1);
        y.bar(0, 1, 10);
        due("a note of one sixteenth", y.note(0, 0, 0, 1, 60, false), 1);
        throwsDue("a note behind the only sixteenth", ARGUMENT, () -> y.note(0, 0, 1, 1, 60, false));
        throwsDue("length 0", ARGUMENT, () -> doBar(y, 0, 0, 10));
        throwsDue("length 33", ARGUMENT, () -> doBar(y, 0, 33, 10));
        due("the length stays", y.tick(1), 10);
    }

    private static void pageLengthAtFirst() {
        sentence("Terms, the page", "LENGTH (at first 16)");
        ScoreRoads x = new ScoreRoads(20);
        for (int b = 0; b < 20; b += 19) {
            int bar = b;
            due("the whole bar " + b, x.note(0, b, 0, 16, 60, false) > 0, true);
            due("its last sixteenth", x.note(0, b, 15, 1, 61, false) > 0, true);
            throwsDue("one sixteenth more", ARGUMENT, () -> x.note(0, bar, 0, 17, 62, false));
            throwsDue("the next sixteenth", ARGUMENT, () -> x.note(0, bar, 16, 1, 62, false));
        }
    }

    private static void pageTempoBounds() {
        sentence("Terms, the page", "a TEMPO, 1 .. 1000 ticks for a sixteenth");
        ScoreRoads x = new ScoreRoads(2);
        int[] tempos = {1, 2, 999, 1000};
        for (int tempo : tempos) {
            x.bar(1, 32, tempo);
            due("tempo " + tempo, x.tick(2) - x.tick(1), 32L * tempo);
        }
        throwsDue("tempo 0", ARGUMENT, () -> doBar(x, 1, 32, 0));
        throwsDue("tempo 1001", ARGUMENT, () -> doBar(x, 1, 32, 1001));
        due("the tempo stays", x.tick(2), 32160);
    }

    private static void pageTempoAtFirst() {
        sentence("Terms, the page", "a TEMPO (at first 10)");
        ScoreRoads x = new ScoreRoads(20);
        x.note(0, 0, 1, 1, 60, false);
        x.note(0, 19, 1, 3, 60, false);
        soundDue("in bar 0", x, 0, 0, 10, 60, 1, 10);
        soundDue("in bar 19", x, 0, 1, 19 * 160 + 10, 60, 3, 30);
    }

    private static void pageOneSignOfEachKind() {
        sentence("Terms, the page", "at most one SIGN of each KIND");
        ScoreRoads x = new ScoreRoads(1);
        for (int kind = 0; kind < KINDS; kind++) {
            due("put kind " + kind, x.sign(0, kind, MOST[kind]), true);
        }
        for (int kind = 0; kind < KINDS; kind++) {
            due("kind " + kind + " beside the others", x.signAt(0, kind), MOST[kind]);
        }
        for (int kind = 0; kind < KINDS; kind++) {
            due("take kind " + kind, x.sign(0, kind, 0), true);
            for (int other = 0; other < KINDS; other++) {
                due("kind " + other, x.signAt(0, other), other <= kind ? 0 : MOST[other]);
            }
        }
    }

    private static void kindsWithOneValue() {
        sentence("Terms, the kinds", "START, SEGNO, CODA, FINE, OVER, LETTER, DOUBLE (1)");
        int[] kinds = {START, SEGNO, CODA, FINE, OVER, LETTER, DOUBLE};
        for (int kind : kinds) {
            valuesDue(kind, 1, 1);
        }
    }

    private static void kindEndCount() {
        sentence("Terms, the kinds", "END (its COUNT, 2 .. 4)");
        valuesDue(END, 2, 4);
        for (int count = 2; count <= 4; count++) {
            due("played " + count + " times", roads(1, 0, END, count).plays(), count);
        }
    }

    private static void kindEndingPasses() {
        sentence("Terms, the kinds", "ENDING (PASSES as bits; 1 .. 15)");
        valuesDue(ENDING, 1, 15);
    }

    private static void kindEndingBits() {
        sentence("Terms, the kinds", "1 for the first one, 2, 4, 8");
        playedDue("four endings", "0 1 0 2 0 3 0 4", roads(5, 1, ENDING, 1, 1, END, 4, 2, ENDING, 2, 2, END, 4,
                3, ENDING, 4, 3, END, 4, 4, ENDING, 8));
        playedDue("passes 1 to 3 in one", "0 1 0 1 0 1 0 2", roads(3, 1, ENDING, 7, 1, END, 4, 2, ENDING, 8));
        playedDue("passes 2 to 4 in one", "0 1 0 2", roads(3, 1, ENDING, 1, 1, END, 4, 2, ENDING, 14));
        playedDue("passes 1 and 3", "0 1 0 2 0 1 0 3", roads(4, 1, ENDING, 5, 1, END, 4, 2, ENDING, 2, 2, END, 4,
                3, ENDING, 8));
    }

    private static void kindJumpValues() {
        sentence("Terms, the kinds", "JUMP (1 .. 12)");
        valuesDue(JUMP, 1, 12);
    }

    /** The last value that is allowed and the first one that is not, on both sides, and the ends of int. */
    private static void valuesDue(int kind, int least, int most) {
        ScoreRoads x = new ScoreRoads(2);
        for (int value = least; value <= most; value++) {
            due("kind " + kind + " value " + value, x.sign(1, kind, value), true);
            due("kind " + kind + " has value " + value, x.signAt(1, kind), value);
            x.sign(1, kind, 0);
        }
        int[] others = {most + 1, most + 2, least == 1 ? -1 : least - 1, -1, -2, LOWEST, HIGHEST};
        for (int value : others) {
            throwsDue("kind " + kind + " value " + value, ARGUMENT, () -> doSign(x, 1, kind, value));
        }
        due("kind " + kind + " is not there", x.signAt(1, kind), 0);
    }

    private static void kindJumpMeanings() {
        sentence("Terms, the kinds", "1 + where to + 2 * how + 6 * repeats");
        String[] behind = {"0 1 2 3 4 5 6", "1 2 3 4 5 6", "0 1 2 3", "1 2 3", "0 1 2 3 6", "1 2 3 6"};
        for (int value = 1; value <= 12; value++) {
            ScoreRoads x = roads(7, 1, SEGNO, 1, 2, START, 1, 2, END, 2, 3, FINE, 1, 3, OVER, 1, 6, CODA, 1,
                    4, JUMP, value);
            String road = behind[(value - 1) % 6];
            playedDue("value " + value, "0 1 2 2 3 4 " + (value > 6 ? road.replace("2", "2 2") : road), x);
        }
    }

    private static void newPageOfEachNumber() {
        sentence("Promise 1", "A page with 1 .. 20 bars");
        for (int bars = 1; bars <= 20; bars++) {
            pageOf(bars, bars);
        }
    }

    private static void newPageOfAnyOtherNumber() {
        sentence("Promise 1", "12 for any other number");
        int[] others = {0, -1, 21, 22, 32, -12, -20, 100, 276, 65548, LOWEST, LOWEST + 1, HIGHEST, HIGHEST - 1};
        for (int bars : others) {
            pageOf(bars, 12);
        }
    }

    private static void pageOf(int asked, int bars) {
        ScoreRoads x = new ScoreRoads(asked);
        due("plays of " + asked, x.plays(), bars);
        due("rest of " + asked, x.rest(0, 0), bars);
        due("last bar of " + asked, x.sign(bars - 1, LETTER, 1), true);
        throwsDue("bar behind the last one of " + asked, ARGUMENT, () -> doSign(x, bars, LETTER, 1));
    }

    private static void newPageWithoutSignsAndNotes() {
        sentence("Promise 1", "no signs, no notes");
        int[] pages = {1, 20};
        for (int bars : pages) {
            ScoreRoads x = new ScoreRoads(bars);
            for (int b = 0; b < bars; b++) {
                for (int kind = 0; kind < KINDS; kind++) {
                    due("sign", x.signAt(b, kind), 0);
                }
                due("played", x.played(b), b);
                due("time", x.time(b), 1);
            }
            for (int part = 0; part <= 2; part++) {
                due("sounds", x.sounds(part), 0);
                due("sound", x.sound(part, 0, 0), NONE);
                due("transpose", x.transpose(part, 1), 0);
                restsDue("rests", x, part, bars);
            }
            due("check", x.check(), 0);
            due("the first note", x.note(0, 0, 0, 1, 60, false), 1);
        }
    }

    private static void barNoSuchBar() {
        sentence("Promise 2", "IllegalArgumentException when there is no such bar");
        int[] pages = {1, 20, 12};
        for (int bars : pages) {
            ScoreRoads x = new ScoreRoads(bars);
            int[] others = {-1, bars, bars + 1, LOWEST, HIGHEST};
            for (int b : others) {
                throwsDue("bar " + b + " of " + bars, ARGUMENT, () -> doBar(x, b, 1, 1));
            }
            due("all bars stay", x.tick(bars), 160L * bars);
            x.bar(0, 1, 1);
            due("bar 0 of " + bars, x.tick(1), 1);
            x.bar(bars - 1, 2, 3);
            due("last bar of " + bars, x.tick(bars) - x.tick(bars - 1), 6);
        }
    }

    private static void barOutOfBounds() {
        sentence("Promise 2", "or one is out of its bounds");
        ScoreRoads x = new ScoreRoads(1);
        int[][] allowed = {{1, 1}, {1, 1000}, {32, 1}, {32, 1000}};
        for (int[] both : allowed) {
            x.bar(0, both[0], both[1]);
            due("length " + both[0] + " tempo " + both[1], x.tick(1), (long) both[0] * both[1]);
        }
        int[][] refused = {{0, 1}, {0, 1000}, {33, 1}, {33, 1000}, {1, 0}, {32, 0}, {1, 1001}, {32, 1001},
            {0, 0}, {33, 1001}, {-1, 10}, {16, -1}, {-16, -10}, {1000, 32}};
        for (int[] both : refused) {
            throwsDue("length " + both[0] + " tempo " + both[1], ARGUMENT, () -> doBar(x, 0, both[0], both[1]));
            due("the bar stays", x.tick(1), 32000);
        }
    }

    private static void barAtTheEndsOfInt() {
        sentence("Promise 2", "or one is out of its bounds (the ends of int)");
        ScoreRoads x = new ScoreRoads(20);
        int[] far = {LOWEST, LOWEST + 1, LOWEST + 16, HIGHEST - 1, HIGHEST};
        for (int value : far) {
            throwsDue("bar " + value, ARGUMENT, () -> doBar(x, value, 16, 10));
            throwsDue("length " + value, ARGUMENT, () -> doBar(x, 0, value, 10));
            throwsDue("tempo " + value, ARGUMENT, () -> doBar(x, 0, 16, value));
            throwsDue("all " + value, ARGUMENT, () -> doBar(x, value, value, value));
        }
        due("all bars stay", x.tick(20), 3200);
    }

    private static void barNoteOverTheEnd() {
        sentence("Promise 2", "IllegalStateException when a note there would go over the end");
        ScoreRoads x = new ScoreRoads(3);
        x.note(0, 1, 3, 5, 60, false);
        throwsDue("one sixteenth too short", STATE, () -> doBar(x, 1, 7, 10));
        throwsDue("the shortest", STATE, () -> doBar(x, 1, 1, 10));
        throwsDue("out of bounds before that", ARGUMENT, () -> doBar(x, 1, 0, 10));
        throwsDue("no tempo before that", ARGUMENT, () -> doBar(x, 1, 7, 1001));
        due("the bar stays", x.tick(3), 480);
        x.bar(1, 8, 10);
        due("just long enough", x.tick(3), 400);
        x.bar(0, 1, 10);
        x.bar(2, 1, 10);
        due("a note in another bar", x.tick(3), 100);
        ScoreRoads y = new ScoreRoads(1);
        y.bar(0, 32, 10);
        y.note(0, 0, 31, 1, 60, false);
        throwsDue("31 with a note up to 32", STATE, () -> doBar(y, 0, 31, 10));
        throwsDue("33 with a note up to 32", ARGUMENT, () -> doBar(y, 0, 33, 10));
        y.bar(0, 32, 1);
        due("32 with a note up to 32", y.tick(1), 32);
        ScoreRoads z = new ScoreRoads(1);
        z.note(0, 0, 0, 1, 60, false);
        z.bar(0, 1, 1000);
        due("1 with a note up to 1", z.tick(1), 1000);
    }

    private static void barNoteOfEachPart() {
        sentence("Promise 2", "a note there (whatever its part)");
        for (int part = 0; part <= 2; part++) {
            ScoreRoads x = new ScoreRoads(1);
            x.note((part + 1) % 3, 0, 0, 1, 60, false);
            x.note(part, 0, 0, 9, 60, false);
            x.note((part + 2) % 3, 0, 0, 2, 60, false);
            throwsDue("part " + part, STATE, () -> doBar(x, 0, 8, 10));
            x.bar(0, 9, 10);
            due("part " + part, x.tick(1), 90);
        }
    }

    private static void signPutsOrTakesAway() {
        sentence("Promise 3", "Puts a sign, or takes it away (value 0): whether there was a change");
        int[] bars = {0, 19};
        for (int b : bars) {
            for (int kind = 0; kind < KINDS; kind++) {
                ScoreRoads x = new ScoreRoads(20);
                due("none to take", x.sign(b, kind, 0), false);
                due("put", x.sign(b, kind, LEAST[kind]), true);
                due("put again", x.sign(b, kind, LEAST[kind]), false);
                due("is there", x.signAt(b, kind), LEAST[kind]);
                due("take", x.sign(b, kind, 0), true);
                due("take again", x.sign(b, kind, 0), false);
                due("is gone", x.signAt(b, kind), 0);
                due("put anew, with another value", x.sign(b, kind, MOST[kind]), true);
                due("is there", x.signAt(b, kind), MOST[kind]);
            }
        }
    }

    private static void signNoSuchBar() {
        sentence("Promise 3", "IllegalArgumentException when there is no such bar");
        int[] pages = {1, 12, 20};
        for (int bars : pages) {
            ScoreRoads x = new ScoreRoads(bars);
            int[] others = {-1, bars, LOWEST, HIGHEST};
            for (int b : others) {
                throwsDue("put in bar " + b + " of " + bars, ARGUMENT, () -> doSign(x, b, START, 1));
                throwsDue("take in bar " + b + " of " + bars, ARGUMENT, () -> doSign(x, b, START, 0));
            }
            due("nothing is there", x.check(), 0);
        }
    }

    private static void signNoSuchKind() {
        sentence("Promise 3", "no such kind");
        ScoreRoads x = new ScoreRoads(20);
        int[] others = {-1, 10, 11, -10, LOWEST, HIGHEST};
        for (int kind : others) {
            throwsDue("put kind " + kind, ARGUMENT, () -> doSign(x, 1, kind, 1));
            throwsDue("take kind " + kind, ARGUMENT, () -> doSign(x, 1, kind, 0));
            throwsDue("kind " + kind + " at the ends of int", ARGUMENT, () -> doSign(x, 1, kind, HIGHEST));
        }
        for (int b = 0; b < 20; b++) {
            for (int kind = 0; kind < KINDS; kind++) {
                due("nothing is there", x.signAt(b, kind), 0);
            }
        }
        due("kind 0", x.sign(1, 0, 1), true);
        due("kind 9", x.sign(1, 9, 1), true);
    }

    private static void signNoSuchValue() {
        sentence("Promise 3", "or the value is none of it");
        for (int kind = 0; kind < KINDS; kind++) {
            ScoreRoads x = new ScoreRoads(1);
            int k = kind;
            x.sign(0, kind, MOST[kind]);
            int[] others = {MOST[kind] + 1, -1, -MOST[kind], LOWEST, HIGHEST};
            for (int value : others) {
                throwsDue("kind " + kind + " value " + value, ARGUMENT, () -> doSign(x, 0, k, value));
                due("the sign stays", x.signAt(0, kind), MOST[kind]);
            }
        }
        throwsDue("END 1, which no other kind refuses", ARGUMENT, () -> doSign(new ScoreRoads(1), 0, END, 1));
    }

    private static void signAnotherValue() {
        sentence("Promise 3", "IllegalStateException when there is one of this kind with another value");
        int[] kinds = {END, ENDING, JUMP};
        for (int kind : kinds) {
            for (int old = LEAST[kind]; old <= MOST[kind]; old++) {
                ScoreRoads x = roads(2, 1, kind, old);
                for (int value = LEAST[kind]; value <= MOST[kind]; value++) {
                    int other = value;
                    if (value != old) {
                        throwsDue("kind " + kind + " " + value, STATE, () -> doSign(x, 1, kind, other));
                    }
                }
                due("the sign stays", x.signAt(1, kind), old);
                due("its own value", x.sign(1, kind, old), false);
                int least = LEAST[kind];
                due("in another bar", x.sign(0, kind, old == least ? least + 1 : least), true);
            }
        }
    }

    private static void signAtNoneSuch() {
        sentence("Promise 4", "0 when there is none such");
        int[] pages = {1, 12, 20};
        for (int bars : pages) {
            ScoreRoads x = roads(bars, 0, START, 1, bars - 1, DOUBLE, 1, 0, END, 4);
            due("bar 0, kind 0", x.signAt(0, 0), 1);
            due("last bar, kind 9", x.signAt(bars - 1, 9), 1);
            due("the kind between", x.signAt(0, ENDING), 0);
            int[] others = {-1, bars, LOWEST, HIGHEST};
            for (int b : others) {
                due("bar " + b + " of " + bars, x.signAt(b, START) + x.signAt(b, DOUBLE), 0);
            }
            int[] kinds = {-1, 10, LOWEST, HIGHEST};
            for (int kind : kinds) {
                due("kind " + kind, x.signAt(0, kind) + x.signAt(bars - 1, kind), 0);
            }
            due("neither bar nor kind", x.signAt(LOWEST, HIGHEST) + x.signAt(bars, 10) + x.signAt(-1, -1), 0);
        }
    }

    /** Pairs that would be another sign's place, if bar and kind were joined to one number without a look at each. */
    private static void signAtWrapsNowhere() {
        sentence("Promise 4", "0 when there is none such (a wrap-around)");
        ScoreRoads x = new ScoreRoads(20);
        for (int b = 0; b < 20; b++) {
            x.sign(b, LETTER, 1);
            x.sign(b, START, 1);
        }
        for (int b = 0; b < 20; b++) {
            due("kind 10 of bar " + b, x.signAt(b, 10), 0);
            due("kind 18 of bar " + b, x.signAt(b, 18), 0);
            due("kind -2 of bar " + b, x.signAt(b, -2), 0);
            due("kind -10 of bar " + b, x.signAt(b, -10), 0);
            due("kind 20 of bar " + b, x.signAt(b, 20), 0);
        }
        // 10 * 429496729 + 6 and 10 * -429496729 + 4 are 0 when they wrap around.
        due("a far bar", x.signAt(429496729, 6) + x.signAt(-429496729, 4), 0);
        due("a far bar of 16", x.signAt(1 << 28, START) + x.signAt(1 << 28, LETTER), 0);
        due("a far bar of 32", x.signAt(1 << 27, START) + x.signAt(LOWEST, LETTER), 0);
    }

    private static void noteHowMany() {
        sentence("Promise 5", "A note more: how many there are");
        ScoreRoads x = new ScoreRoads(20);
        due("the first", x.note(0, 0, 0, 1, 0, false), 1);
        due("in another part", x.note(1, 0, 0, 1, 0, false), 2);
        due("in the last part and bar", x.note(2, 19, 15, 1, 127, true), 3);
        throwsDue("a refused one", ARGUMENT, () -> x.note(0, 0, 0, 0, 0, false));
        throwsDue("a refused one", STATE, () -> x.note(0, 0, 0, 1, 0, true));
        due("refused ones do not count", x.note(0, 1, 0, 1, 0, false), 4);
    }

    private static void noteNoSuchPart() {
        sentence("Promise 5", "IllegalArgumentException when there is no such part");
        ScoreRoads x = new ScoreRoads(1);
        for (int part : NO_PARTS) {
            throwsDue("part " + part, ARGUMENT, () -> x.note(part, 0, 0, 1, 60, false));
        }
        for (int part = 0; part <= 2; part++) {
            due("part " + part, x.note(part, 0, 0, 1, 60, false), part + 1);
        }
    }

    private static void noteNoSuchBar() {
        sentence("Promise 5", "no such bar");
        int[] pages = {1, 12, 20};
        for (int bars : pages) {
            ScoreRoads x = new ScoreRoads(bars);
            int[] others = {-1, bars, LOWEST, HIGHEST};
            for (int b : others) {
                throwsDue("bar " + b + " of " + bars, ARGUMENT, () -> x.note(0, b, 0, 1, 60, false));
            }
            due("bar 0 of " + bars, x.note(0, 0, 0, 1, 60, false), 1);
            due("last bar of " + bars, x.note(0, bars - 1, 0, 1, 61, false), 2);
        }
    }

    private static void notePitch() {
        sentence("Promise 5", "the pitch is not 0 .. 127");
        ScoreRoads x = new ScoreRoads(1);
        int[] others = {-1, 128, 256, -128, LOWEST, HIGHEST};
        for (int pitch : others) {
            throwsDue("pitch " + pitch, ARGUMENT, () -> x.note(0, 0, 0, 1, pitch, false));
        }
        due("pitch 127", x.note(0, 0, 0, 1, 127, false), 1);
        due("pitch 0", x.note(0, 0, 0, 1, 0, false), 2);
        pitchesDue("the pitches", x, 0, 0, 127);
    }

    private static void noteStart() {
        sentence("Promise 5", "the start below 0");
        ScoreRoads x = new ScoreRoads(2);
        int[] others = {-1, -2, -16, LOWEST, LOWEST + 1};
        for (int start : others) {
            throwsDue("start " + start, ARGUMENT, () -> x.note(0, 1, start, 1, 60, false));
            throwsDue("start " + start + " up to the bar's end", ARGUMENT,
                    () -> x.note(0, 1, start, 16 - start, 60, false));
        }
        due("start 0", x.note(0, 1, 0, 1, 60, false), 1);
        due("begins with the bar", x.sound(0, 0, 0), 160);
    }

    private static void noteLength() {
        sentence("Promise 5", "the length below 1");
        ScoreRoads x = new ScoreRoads(1);
        int[] others = {0, -1, LOWEST, LOWEST + 1};
        for (int length : others) {
            throwsDue("length " + length, ARGUMENT, () -> x.note(0, 0, 0, length, 60, false));
            throwsDue("length " + length + " from 15 on", ARGUMENT, () -> x.note(0, 0, 15, length, 60, false));
            throwsDue("length " + length + " from the end on", ARGUMENT, () -> x.note(0, 0, 16, length, 60, false));
        }
        due("length 1", x.note(0, 0, 0, 1, 60, false), 1);
        due("lasts one sixteenth", x.sound(0, 0, 2), 1);
    }

    private static void noteOverTheBarsEnd() {
        sentence("Promise 5", "or it would go over the bar's end");
        int[] lengths = {1, 2, 16, 31, 32};
        for (int length : lengths) {
            ScoreRoads x = new ScoreRoads(2);
            x.bar(1, length, 10);
            for (int start = 0; start < length; start++) {
                int s = start;
                int room = length - start;
                throwsDue(start + " + " + (room + 1) + " of " + length, ARGUMENT,
                        () -> x.note(0, 1, s, room + 1, 60, false));
                due(start + " + " + room + " of " + length, x.note(0, 1, s, room, 60, false), start + 1);
            }
            throwsDue("behind the end of " + length, ARGUMENT, () -> x.note(0, 1, length, 1, 60, false));
        }
    }

    private static void noteOverTheEndAtTheEndsOfInt() {
        sentence("Promise 5", "or it would go over the bar's end (the ends of int)");
        ScoreRoads x = new ScoreRoads(1);
        int[][] places = {{0, HIGHEST}, {1, HIGHEST}, {15, HIGHEST}, {16, HIGHEST}, {HIGHEST, 1}, {HIGHEST - 1, 1},
            {HIGHEST, HIGHEST}, {HIGHEST - 15, HIGHEST - 15}, {HIGHEST, 2}, {1 << 30, 1 << 30}, {LOWEST, HIGHEST},
            {LOWEST, LOWEST}, {HIGHEST, LOWEST}, {0, LOWEST}};
        for (int[] place : places) {
            throwsDue("start " + place[0] + " length " + place[1], ARGUMENT,
                    () -> x.note(0, 0, place[0], place[1], 60, false));
        }
        due("none is there", x.sounds(0), 0);
        due("the first one", x.note(0, 0, 0, 16, 60, false), 1);
    }

    private static void noteForty() {
        sentence("Promise 5", "IllegalStateException when there are 40");
        ScoreRoads x = new ScoreRoads(1);
        for (int n = 1; n <= 40; n++) {
            due("note " + n, x.note(0, 0, n % 16, 1, n, false), n);
        }
        throwsDue("the 41st", STATE, () -> x.note(0, 0, 0, 1, 100, false));
        throwsDue("in another part", STATE, () -> x.note(2, 0, 0, 1, 100, false));
        throwsDue("one that is there", STATE, () -> x.note(0, 0, 1, 1, 1, false));
        throwsDue("no such pitch before that", ARGUMENT, () -> x.note(0, 0, 0, 1, 128, false));
        throwsDue("no such part before that", ARGUMENT, () -> x.note(3, 0, 0, 1, 100, false));
        throwsDue("no such bar before that", ARGUMENT, () -> x.note(0, 1, 0, 1, 100, false));
        throwsDue("over the end before that", ARGUMENT, () -> x.note(0, 0, 15, 2, 100, false));
        due("still 40", x.sounds(0), 40);
        due("all can be transposed", x.transpose(0, 87), 40);
        throwsDue("still 40", STATE, () -> x.note(0, 0, 1, 1, 1, false));
    }

    private static void noteFortyOfAllParts() {
        sentence("Promise 5", "IllegalStateException when there are 40 (of all parts together)");
        ScoreRoads x = new ScoreRoads(20);
        for (int n = 1; n <= 39; n++) {
            due("note " + n, x.note(n % 3, n % 20, 0, 16, n, true), n);
        }
        throwsDue("a refused one", STATE, () -> x.note(0, 19, 0, 1, 39, false));
        due("note 40", x.note(0, 0, 0, 1, 0, false), 40);
        for (int part = 0; part <= 2; part++) {
            int p = part;
            throwsDue("the 41st in part " + part, STATE, () -> x.note(p, 10, 0, 1, 100, false));
        }
        due("sounds", x.sounds(0) + x.sounds(1) + x.sounds(2), 40);
    }

    private static void noteThereIsOne() {
        sentence("Promise 5", "or there is one with this part, bar, start and pitch");
        ScoreRoads x = new ScoreRoads(3);
        x.note(1, 1, 4, 4, 60, false);
        throwsDue("the same", STATE, () -> x.note(1, 1, 4, 4, 60, false));
        throwsDue("longer, with a tie", STATE, () -> x.note(1, 1, 4, 12, 60, true));
        throwsDue("over the end before that", ARGUMENT, () -> x.note(1, 1, 4, 13, 60, false));
        due("the one before it in part", x.note(0, 1, 4, 4, 60, false), 2);
        due("the one behind it in part", x.note(2, 1, 4, 4, 60, false), 3);
        due("the one before it in bar", x.note(1, 0, 4, 4, 60, false), 4);
        due("the one behind it in bar", x.note(1, 2, 4, 4, 60, false), 5);
        due("the one before it in start", x.note(1, 1, 3, 4, 60, false), 6);
        due("the one behind it in start", x.note(1, 1, 5, 4, 60, false), 7);
        due("the one below", x.note(1, 1, 4, 4, 59, false), 8);
        due("the one above", x.note(1, 1, 4, 4, 61, false), 9);
        due("the first stays as it was", x.sound(1, 3, 2), 4);
        ScoreRoads y = new ScoreRoads(1);
        y.note(0, 0, 0, 1, 60, false);
        y.transpose(0, 1);
        throwsDue("where it is now", STATE, () -> y.note(0, 0, 0, 1, 61, false));
        due("where it was", y.note(0, 0, 0, 1, 60, false), 2);
    }

    private static void transposeHowMany() {
        sentence("Promise 6", "All notes of a part are so many steps higher: how many notes");
        ScoreRoads x = new ScoreRoads(20);
        for (int n = 0; n < 40; n++) {
            x.note(n == 0 ? 0 : n < 3 ? 1 : 2, n % 20, 0, 1, n, false);
        }
        due("one", x.transpose(0, 1), 1);
        due("two", x.transpose(1, 2), 2);
        due("37", x.transpose(2, -3), 37);
        pitchesDue("one", x, 0, 1);
        pitchesDue("two", x, 1, 3, 4);
        due("lowest of 37", x.sound(2, 3, 1), 0);
        due("highest of 37", x.sound(2, 36, 1), 36);
    }

    private static void transposeNoSuchPart() {
        sentence("Promise 6", "IllegalArgumentException when there is no such part");
        ScoreRoads x = new ScoreRoads(1);
        x.note(0, 0, 0, 1, 60, false);
        x.note(2, 0, 0, 1, 60, false);
        for (int part : NO_PARTS) {
            throwsDue("part " + part, ARGUMENT, () -> x.transpose(part, 0));
            throwsDue("part " + part, ARGUMENT, () -> x.transpose(part, 1));
        }
        due("part 0 stays", x.sound(0, 0, 1), 60);
        due("part 2 stays", x.sound(2, 0, 1), 60);
    }

    private static void transposeToTheHighestPitch() {
        sentence("Promise 6", "or a pitch would not be 0 .. 127 (too large)");
        ScoreRoads x = new ScoreRoads(2);
        x.note(0, 0, 0, 1, 100, false);
        x.note(0, 1, 0, 1, 0, false);
        x.note(1, 0, 0, 1, 127, false);
        throwsDue("to 128", ARGUMENT, () -> x.transpose(0, 28));
        pitchesDue("no note has moved", x, 0, 100, 0);
        due("to 127", x.transpose(0, 27), 2);
        pitchesDue("both have moved", x, 0, 127, 27);
        throwsDue("to 128", ARGUMENT, () -> x.transpose(0, 1));
        pitchesDue("no note has moved", x, 0, 127, 27);
        pitchesDue("another part", x, 1, 127);
        ScoreRoads y = new ScoreRoads(1);
        y.note(2, 0, 0, 1, 0, false);
        due("by 127", y.transpose(2, 127), 1);
        due("by -127", y.transpose(2, -127), 1);
        throwsDue("by 128", ARGUMENT, () -> y.transpose(2, 128));
        pitchesDue("where it was", y, 2, 0);
    }

    private static void transposeToTheLowestPitch() {
        sentence("Promise 6", "or a pitch would not be 0 .. 127 (too small)");
        ScoreRoads x = new ScoreRoads(2);
        x.note(0, 0, 0, 1, 100, false);
        x.note(0, 1, 0, 1, 5, false);
        x.note(1, 0, 0, 1, 0, false);
        throwsDue("to -1", ARGUMENT, () -> x.transpose(0, -6));
        pitchesDue("no note has moved", x, 0, 100, 5);
        due("to 0", x.transpose(0, -5), 2);
        pitchesDue("both have moved", x, 0, 95, 0);
        throwsDue("to -1", ARGUMENT, () -> x.transpose(0, -1));
        pitchesDue("no note has moved", x, 0, 95, 0);
        pitchesDue("another part", x, 1, 0);
    }

    private static void transposeByNoStepsAndWithoutNotes() {
        sentence("Promise 6", "how many notes (none, or by no steps)");
        ScoreRoads x = new ScoreRoads(1);
        x.note(0, 0, 0, 1, 127, false);
        due("by 0", x.transpose(0, 0), 1);
        due("no notes by 0", x.transpose(1, 0), 0);
        due("no notes by 128", x.transpose(1, 128), 0);
        due("no notes by -128", x.transpose(1, -128), 0);
        due("no notes, the highest", x.transpose(2, HIGHEST), 0);
        due("no notes, the lowest", x.transpose(2, LOWEST), 0);
        due("a note behind that is as it is put", x.note(2, 0, 0, 1, 60, false), 2);
        pitchesDue("a note behind that", x, 2, 60);
    }

    private static void transposeAtTheEndsOfInt() {
        sentence("Promise 6", "or a pitch would not be 0 .. 127 (the ends of int)");
        int[] pitches = {0, 1, 126, 127};
        int[] far = {LOWEST, LOWEST + 1, LOWEST + 127, HIGHEST, HIGHEST - 1, HIGHEST - 127, 1 << 30, -(1 << 30)};
        for (int pitch : pitches) {
            ScoreRoads x = new ScoreRoads(1);
            x.note(0, 0, 0, 1, pitch, false);
            for (int steps : far) {
                throwsDue(pitch + " by " + steps, ARGUMENT, () -> x.transpose(0, steps));
            }
            pitchesDue("the pitch stays", x, 0, pitch);
        }
    }
}
