/** The boundary cases of notes as they are played and of rests: a method for each sentence, promises 14 to 16. */
public final class BoundarySoundTest extends Dues {
    private static final int[] NO_PARTS = {-1, 3, LOWEST, HIGHEST};
    private static final int[] FAR = {LOWEST, LOWEST + 1, HIGHEST - 1, HIGHEST};

    public static void main(String[] args) {
        test(BoundarySoundTest::notesPitchBounds);
        test(BoundarySoundTest::notesEachTimeABarIsPlayed);
        test(BoundarySoundTest::tieIsWanted);
        test(BoundarySoundTest::tieGoesToTheBarsEnd);
        test(BoundarySoundTest::tieAtTheEndOfABarOfOneAndOf32);
        test(BoundarySoundTest::tieIntoTheNextBarThatIsPlayed);
        test(BoundarySoundTest::tieOverEachJump);
        test(BoundarySoundTest::tieBehindTheLastPlayedBar);
        test(BoundarySoundTest::tieSamePitch);
        test(BoundarySoundTest::tieSamePart);
        test(BoundarySoundTest::tieStart0);
        test(BoundarySoundTest::tieGivesNoSoundOfItsOwn);
        test(BoundarySoundTest::tieGoesOnOverAllBars);
        test(BoundarySoundTest::tieOfABarIntoItself);
        test(BoundarySoundTest::soundBeginsAtItsFirstNotesTime);
        test(BoundarySoundTest::soundLengths);
        test(BoundarySoundTest::soundsNoNotes);
        test(BoundarySoundTest::soundsFortyNotes);
        test(BoundarySoundTest::soundsNoSuchPart);
        test(BoundarySoundTest::soundsFault);
        test(BoundarySoundTest::soundOrderByTick);
        test(BoundarySoundTest::soundOrderByPitch);
        test(BoundarySoundTest::soundWhat);
        test(BoundarySoundTest::soundNoneSuch);
        test(BoundarySoundTest::soundNoSuchPart);
        test(BoundarySoundTest::soundFault);
        test(BoundarySoundTest::restsWithoutNotes);
        test(BoundarySoundTest::restsCutsInFront);
        test(BoundarySoundTest::restsCutsBehind);
        test(BoundarySoundTest::restsAnotherLength);
        test(BoundarySoundTest::restsAtTheEndsOfThePage);
        test(BoundarySoundTest::restIsFirstBarAndNumber);
        test(BoundarySoundTest::restNotSoMany);
        test(BoundarySoundTest::restNoSuchPart);
        end();
    }

    private static void notesPitchBounds() {
        sentence("Terms, NOTES", "a pitch 0 .. 127");
        ScoreRoads x = new ScoreRoads(1);
        x.note(0, 0, 0, 1, 0, false);
        x.note(0, 0, 0, 1, 127, false);
        pitchesDue("both ends", x, 0, 0, 127);
        throwsDue("-1", ARGUMENT, () -> x.note(0, 0, 0, 1, -1, false));
        throwsDue("128", ARGUMENT, () -> x.note(0, 0, 0, 1, 128, false));
        pitchesDue("both ends, and no more", x, 0, 0, 127);
    }

    private static void notesEachTimeABarIsPlayed() {
        sentence("Terms, NOTES", "each time a bar is played each of its notes gives a sound");
        ScoreRoads x = new ScoreRoads(1);
        x.note(0, 0, 0, 1, 60, false);
        due("once", x.sounds(0), 1);
        for (int count = 2; count <= 4; count++) {
            x.sign(0, END, count);
            due("count " + count, x.sounds(0), count);
            x.sign(0, END, 0);
        }
        x.sign(0, END, 4);
        x.sign(0, JUMP, 7);
        due("with a jump", x.sounds(0), 8);
        ScoreRoads y = roads(4, 1, ENDING, 2, 1, END, 3, 2, ENDING, 5);
        y.note(0, 1, 0, 1, 60, false);
        due("never", y.sounds(0), 0);
    }

    private static void tieIsWanted() {
        sentence("Terms, NOTES", "if it has a tie");
        due("with", two(0, 16, true, 0, 60).sounds(0), 1);
        due("without", two(0, 16, false, 0, 60).sounds(0), 2);
        soundDue("with", two(0, 16, true, 0, 60), 0, 0, 0, 60, 20, 200);
        soundDue("without", two(0, 16, false, 0, 60), 0, 0, 0, 60, 16, 160);
    }

    private static void tieGoesToTheBarsEnd() {
        sentence("Terms, NOTES", "goes to its bar's end");
        due("to the end", two(0, 16, true, 0, 60).sounds(0), 1);
        due("one sixteenth less", two(0, 15, true, 0, 60).sounds(0), 2);
        due("the last sixteenth", two(15, 1, true, 0, 60).sounds(0), 1);
        due("the last but one", two(14, 1, true, 0, 60).sounds(0), 2);
        ScoreRoads x = two(0, 16, true, 0, 60);
        x.bar(0, 17, 10);
        due("the bar has grown", x.sounds(0), 2);
        x.bar(0, 16, 10);
        due("the bar is as it was", x.sounds(0), 1);
    }

    private static void tieAtTheEndOfABarOfOneAndOf32() {
        sentence("Terms, NOTES", "goes to its bar's end (the shortest and the longest bar)");
        ScoreRoads x = new ScoreRoads(2);
        x.bar(0, 1, 1000);
        x.bar(1, 32, 1);
        x.note(0, 0, 0, 1, 60, true);
        x.note(0, 1, 0, 32, 60, true);
        soundDue("of 1 and 32", x, 0, 0, 0, 60, 33, 1032);
        due("one sound", x.sounds(0), 1);
        ScoreRoads y = new ScoreRoads(2);
        y.bar(0, 32, 10);
        y.note(0, 0, 31, 1, 60, true);
        y.note(0, 0, 30, 1, 61, true);
        y.note(0, 1, 0, 1, 60, true);
        y.note(0, 1, 0, 1, 61, true);
        due("just the one that goes to the end", y.sounds(0), 3);
    }

    private static void tieIntoTheNextBarThatIsPlayed() {
        sentence("Terms, NOTES", "the next bar that is played has a note of that part with the same pitch and start 0");
        ScoreRoads x = new ScoreRoads(3);
        x.note(0, 0, 0, 16, 60, true);
        x.note(0, 2, 0, 4, 60, false);
        due("a bar between", x.sounds(0), 2);
        x.sign(1, ENDING, 2);
        x.sign(1, END, 3);
        x.sign(2, ENDING, 5);
        due("a bar between that is not played", x.sounds(0), 1);
        ScoreRoads y = roads(3, 1, END, 2);
        y.note(0, 1, 0, 16, 60, true);
        y.note(0, 0, 0, 2, 60, false);
        y.note(0, 2, 0, 3, 60, false);
        due("back to the first bar, and on to the next one", y.sounds(0), 3);
        soundDue("the first", y, 0, 0, 0, 60, 2, 20);
        soundDue("back", y, 0, 1, 160, 60, 18, 180);
        soundDue("on", y, 0, 2, 480, 60, 19, 190);
    }

    private static void tieOverEachJump() {
        sentence("Terms, NOTES", "the next bar that is played (over the jump and to the coda)");
        ScoreRoads x = roads(5, 1, SEGNO, 1, 2, OVER, 1, 3, JUMP, 6, 4, CODA, 1);
        x.note(0, 3, 12, 4, 60, true);
        x.note(0, 1, 0, 1, 60, false);
        x.note(0, 2, 12, 4, 70, true);
        x.note(0, 4, 0, 2, 70, false);
        x.note(0, 3, 0, 3, 70, false);
        due("all", x.sounds(0), 4);
        soundDue("to the next bar", x, 0, 1, 320 + 120, 70, 7, 70);
        soundDue("over the jump", x, 0, 2, 480 + 120, 60, 5, 50);
        soundDue("to the coda", x, 0, 3, 640 + 160 + 120, 70, 6, 60);
    }

    private static void tieBehindTheLastPlayedBar() {
        sentence("Terms, NOTES", "the next bar that is played (there is none)");
        ScoreRoads x = new ScoreRoads(1);
        x.note(0, 0, 0, 16, 60, true);
        soundDue("a page of one bar", x, 0, 0, 0, 60, 16, 160);
        ScoreRoads y = new ScoreRoads(20);
        y.note(0, 19, 15, 1, 60, true);
        y.note(0, 0, 0, 1, 60, true);
        soundDue("the last of 20", y, 0, 1, 19 * 160 + 150, 60, 1, 10);
        ScoreRoads z = roads(3, 1, FINE, 1, 1, JUMP, 3);
        z.note(0, 1, 0, 16, 60, true);
        z.note(0, 2, 0, 16, 60, true);
        due("at the fine", z.sounds(0), 2);
        ScoreRoads w = roads(2, 1, END, 2);
        w.note(0, 1, 0, 16, 60, true);
        w.note(0, 0, 0, 4, 60, false);
        soundDue("not the last, as long as it is repeated", w, 0, 1, 160, 60, 20, 200);
        w.sign(1, END, 0);
        soundDue("the last, since it is repeated no more", w, 0, 1, 160, 60, 16, 160);
        soundDue("at the fine", z, 0, 1, 480, 60, 16, 160);
    }

    private static void tieSamePitch() {
        sentence("Terms, NOTES", "the same pitch");
        for (int pitch = 59; pitch <= 61; pitch++) {
            due("60 and " + pitch, two(0, 16, true, 0, pitch).sounds(0), pitch == 60 ? 1 : 2);
        }
        int[] ends = {0, 127};
        for (int pitch : ends) {
            ScoreRoads x = new ScoreRoads(2);
            x.note(0, 0, 0, 16, pitch, true);
            x.note(0, 1, 0, 16, pitch, true);
            due("pitch " + pitch, x.sounds(0), 1);
        }
        ScoreRoads y = two(0, 16, true, 0, 60);
        y.transpose(0, 67);
        soundDue("as high as can be", y, 0, 0, 0, 127, 20, 200);
    }

    private static void tieSamePart() {
        sentence("Terms, NOTES", "a note of that part");
        for (int part = 0; part <= 2; part++) {
            for (int next = 0; next <= 2; next++) {
                ScoreRoads x = new ScoreRoads(2);
                x.note(part, 0, 0, 16, 60, true);
                x.note(next, 1, 0, 16, 60, false);
                due(part + " and " + next, x.sounds(0) + x.sounds(1) + x.sounds(2), part == next ? 1 : 2);
            }
        }
    }

    private static void tieStart0() {
        sentence("Terms, NOTES", "start 0");
        due("0", two(0, 16, true, 0, 60).sounds(0), 1);
        due("1", two(0, 16, true, 1, 60).sounds(0), 2);
        ScoreRoads x = two(0, 16, true, 0, 60);
        x.note(0, 1, 4, 12, 60, false);
        due("0 and 4", x.sounds(0), 2);
        soundDue("the one from 4 on", x, 0, 1, 200, 60, 12, 120);
    }

    private static void tieGivesNoSoundOfItsOwn() {
        sentence("Terms, NOTES", "each one that goes on gives no sound of its own");
        ScoreRoads x = two(0, 16, true, 0, 60);
        due("one", x.sounds(0), 1);
        due("none behind it", x.sound(0, 1, 0), NONE);
        x.note(0, 0, 15, 1, 60, true);
        due("two go on in one", x.sounds(0), 2);
        soundDue("the longer", x, 0, 0, 0, 60, 20, 200);
        soundDue("the shorter", x, 0, 1, 150, 60, 5, 50);
        ScoreRoads y = roads(2, 1, END, 2);
        y.note(0, 1, 0, 16, 60, true);
        y.note(0, 0, 0, 16, 60, false);
        due("in the first time a sound of its own, not in the second", y.sounds(0), 3);
    }

    private static void tieGoesOnOverAllBars() {
        sentence("Terms, NOTES", "that one goes on with the same sound (over all bars)");
        ScoreRoads x = new ScoreRoads(20);
        for (int b = 0; b < 20; b++) {
            x.bar(b, 32, 1000);
            x.note(2, b, 0, 32, 127, true);
        }
        soundDue("20 bars", x, 2, 0, 0, 127, 640, 640000);
        due("one", x.sounds(2), 1);
        x.sign(19, END, 4);
        x.sign(19, JUMP, 7);
        soundDue("160 bars", x, 2, 0, 0, 127, 5120, 5120000);
        due("one", x.sounds(2), 1);
        x.sign(10, DOUBLE, 1);
        x.sign(10, END, 2);
        due("still one", x.sounds(2), 1);
    }

    private static void tieOfABarIntoItself() {
        sentence("Terms, NOTES", "that one goes on with the same sound (a bar behind itself)");
        ScoreRoads x = roads(1, 0, END, 4);
        x.note(0, 0, 0, 16, 60, true);
        due("one", x.sounds(0), 1);
        soundDue("four times", x, 0, 0, 0, 60, 64, 640);
        ScoreRoads y = roads(1, 0, END, 2);
        y.note(0, 0, 0, 8, 60, true);
        y.note(0, 0, 8, 8, 60, true);
        due("two in each bar", y.sounds(0), 3);
        soundDue("the first", y, 0, 0, 0, 60, 8, 80);
        soundDue("the second, over the end", y, 0, 1, 80, 60, 16, 160);
        soundDue("the last", y, 0, 2, 240, 60, 8, 80);
    }

    private static void soundBeginsAtItsFirstNotesTime() {
        sentence("Terms, NOTES", "A sound begins at its first note's time");
        ScoreRoads x = new ScoreRoads(2);
        x.bar(0, 32, 1000);
        x.bar(1, 1, 1);
        x.note(0, 0, 0, 1, 60, false);
        x.note(0, 0, 31, 1, 60, true);
        x.note(0, 1, 0, 1, 60, false);
        x.note(1, 1, 0, 1, 60, false);
        due("tick 0", x.sound(0, 0, 0), 0);
        due("the last sixteenth", x.sound(0, 1, 0), 31000);
        due("in the next bar", x.sound(1, 0, 0), 32000);
    }

    private static void soundLengths() {
        sentence("Terms, NOTES", "a length in sixteenths and one in ticks (by the tempos of the bars)");
        ScoreRoads x = new ScoreRoads(3);
        x.bar(0, 1, 1);
        x.bar(1, 32, 1000);
        x.bar(2, 2, 7);
        x.note(0, 0, 0, 1, 60, true);
        x.note(0, 1, 0, 32, 60, true);
        x.note(0, 2, 0, 1, 60, true);
        soundDue("over three tempos", x, 0, 0, 0, 60, 34, 1 + 32000 + 7);
        x.bar(0, 1, 1000);
        soundDue("another tempo", x, 0, 0, 0, 60, 34, 1000 + 32000 + 7);
    }

    private static void soundsNoNotes() {
        sentence("Promise 14", "How many sounds a part has (no notes)");
        int[] pages = {1, 20, 0};
        for (int bars : pages) {
            for (int part = 0; part <= 2; part++) {
                due("part " + part + " of " + bars, new ScoreRoads(bars).sounds(part), 0);
            }
        }
        ScoreRoads x = new ScoreRoads(1);
        x.note(1, 0, 0, 1, 60, false);
        due("the part before", x.sounds(0), 0);
        due("the part behind", x.sounds(2), 0);
        due("the part", x.sounds(1), 1);
    }

    private static void soundsFortyNotes() {
        sentence("Promise 14", "How many sounds a part has (40 notes)");
        for (int part = 0; part <= 2; part++) {
            ScoreRoads x = threeWays();
            for (int n = 0; n < 40; n++) {
                x.note(part, 3, n % 16, 1, 127 - n, true);
            }
            due("eleven times in part " + part, x.sounds(part), 440);
            due("the last one", x.sound(part, 439, 0), x.tick(x.find(3, 11)) + 150);
            due("no more", x.sound(part, 440, 0), NONE);
            due("in other parts", x.sounds((part + 1) % 3) + x.sounds((part + 2) % 3), 0);
        }
    }

    private static void soundsNoSuchPart() {
        sentence("Promise 14", "IllegalArgumentException when there is no such part");
        ScoreRoads x = new ScoreRoads(1);
        for (int part = 0; part <= 2; part++) {
            due("part " + part, x.sounds(part), 0);
        }
        for (int part : NO_PARTS) {
            throwsDue("part " + part, ARGUMENT, () -> x.sounds(part));
        }
    }

    private static void soundsFault() {
        sentence("Promise 14", "IllegalStateException when there is a fault");
        ScoreRoads x = new ScoreRoads(1);
        x.note(0, 0, 0, 1, 60, false);
        due("no fault", x.sounds(0), 1);
        x.sign(0, START, 1);
        for (int part = 0; part <= 2; part++) {
            int p = part;
            throwsDue("part " + part, STATE, () -> x.sounds(p));
        }
        throwsDue("no such part, named before the fault", ARGUMENT, () -> x.sounds(3));
        x.sign(0, START, 0);
        due("mended", x.sounds(0), 1);
    }

    private static void soundOrderByTick() {
        sentence("Promise 15", "by the tick at which they begin");
        ScoreRoads x = new ScoreRoads(2);
        x.note(0, 1, 0, 1, 0, false);
        x.note(0, 0, 15, 1, 1, false);
        x.note(0, 0, 1, 1, 2, false);
        x.note(0, 0, 0, 1, 127, false);
        pitchesDue("from the last to the first", x, 0, 127, 2, 1, 0);
        x.bar(0, 16, 1);
        pitchesDue("one tick apart", x, 0, 127, 2, 1, 0);
        x.sign(1, END, 2);
        pitchesDue("twice", x, 0, 127, 2, 1, 0, 127, 2, 1, 0);
    }

    private static void soundOrderByPitch() {
        sentence("Promise 15", "then by pitch");
        ScoreRoads x = new ScoreRoads(1);
        x.note(0, 0, 0, 1, 127, false);
        x.note(0, 0, 0, 1, 0, false);
        x.note(0, 0, 0, 1, 126, false);
        x.note(0, 0, 0, 1, 1, false);
        pitchesDue("one tick", x, 0, 0, 1, 126, 127);
        ScoreRoads y = new ScoreRoads(1);
        for (int n = 0; n < 40; n++) {
            y.note(1, 0, 3, 1, 39 - n, false);
        }
        due("lowest of 40", y.sound(1, 0, 1), 0);
        due("highest of 40", y.sound(1, 39, 1), 39);
        y.transpose(1, 88);
        due("lowest of 40, higher", y.sound(1, 0, 1), 88);
        due("highest of 40, higher", y.sound(1, 39, 1), 127);
    }

    private static void soundWhat() {
        sentence("Promise 15",
                "what = 0 the tick at which it begins, 1 its pitch, 2 its length in sixteenths, 3 its length in ticks");
        ScoreRoads x = new ScoreRoads(2);
        x.bar(1, 16, 7);
        x.note(0, 1, 2, 3, 60, false);
        soundDue("all four", x, 0, 0, 174, 60, 3, 21);
        int[] others = {-1, 4, 5, -4, LOWEST, HIGHEST};
        for (int what : others) {
            due("what " + what, x.sound(0, 0, what), NONE);
            due("what " + what + " of none", x.sound(0, 1, what), NONE);
        }
    }

    private static void soundNoneSuch() {
        sentence("Promise 15", "NONE when there is none such");
        ScoreRoads x = new ScoreRoads(20);
        for (int n = 0; n < 40; n++) {
            x.note(n % 2, n / 2, 0, 1, 60, false);
        }
        for (int what = 0; what <= 3; what++) {
            due("the first of part 0", x.sound(0, 0, what) != NONE, true);
            due("the last of part 1", x.sound(1, 19, what) != NONE, true);
            due("one more", x.sound(1, 20, what), NONE);
            due("-1", x.sound(0, -1, what), NONE);
            due("of a part without notes", x.sound(2, 0, what), NONE);
            for (int i : FAR) {
                due("far: " + i, x.sound(0, i, what), NONE);
            }
        }
        due("neither i nor what", x.sound(0, LOWEST, HIGHEST), NONE);
    }

    private static void soundNoSuchPart() {
        sentence("Promise 15", "Exceptions as for sounds (no such part)");
        ScoreRoads x = new ScoreRoads(1);
        for (int part : NO_PARTS) {
            throwsDue("part " + part, ARGUMENT, () -> x.sound(part, 0, 0));
            throwsDue("part " + part + ", none such", ARGUMENT, () -> x.sound(part, -1, 4));
            throwsDue("part " + part + ", far", ARGUMENT, () -> x.sound(part, HIGHEST, LOWEST));
        }
    }

    private static void soundFault() {
        sentence("Promise 15", "Exceptions as for sounds (a fault)");
        ScoreRoads x = roads(1, 0, START, 1);
        x.note(0, 0, 0, 1, 60, false);
        throwsDue("a fault", STATE, () -> x.sound(0, 0, 0));
        throwsDue("a fault, one more", STATE, () -> x.sound(0, 1, 0));
        throwsDue("a fault, -1", STATE, () -> x.sound(0, -1, 0));
        throwsDue("a fault, what 4", STATE, () -> x.sound(0, 0, 4));
        throwsDue("a fault, far", STATE, () -> x.sound(2, HIGHEST, LOWEST));
        throwsDue("no such part, named before the fault", ARGUMENT, () -> x.sound(3, 0, 0));
        x.sign(0, END, 2);
        soundDue("mended", x, 0, 1, 160, 60, 1, 10);
    }

    private static void restsWithoutNotes() {
        sentence("Terms, RESTS", "bars of the page without notes of the part, gathered as far as they are neighbours");
        ScoreRoads x = new ScoreRoads(20);
        restsDue("no notes", x, 0, 20);
        x.note(0, 10, 15, 1, 60, false);
        restsDue("a note in the middle", x, 0, 10, 1109);
        restsDue("in another part", x, 1, 20);
        restsDue("in another part", x, 2, 20);
        x.note(0, 12, 0, 1, 60, false);
        restsDue("one bar between two notes", x, 0, 10, 1101, 1307);
        x.note(0, 11, 0, 1, 60, false);
        restsDue("none between them", x, 0, 10, 1307);
    }

    private static void restsCutsInFront() {
        sentence("Terms, RESTS", "CUT: in front of a bar with START, ENDING, SEGNO, CODA, LETTER");
        int[] kinds = {START, ENDING, SEGNO, CODA, LETTER};
        for (int kind : kinds) {
            restsDue("kind " + kind, roads(5, 2, kind, 1), 0, 2, 203);
            restsDue("kind " + kind + " in bar 1", roads(5, 1, kind, 1), 0, 1, 104);
            restsDue("kind " + kind + " in the last bar", roads(5, 4, kind, 1), 0, 4, 401);
        }
        int[] values = {1, 2, 4, 8, 15};
        for (int value : values) {
            restsDue("ENDING " + value, roads(5, 2, ENDING, value), 0, 2, 203);
        }
    }

    private static void restsCutsBehind() {
        sentence("Terms, RESTS", "behind one with END, FINE, OVER, JUMP, DOUBLE");
        int[] kinds = {END, FINE, OVER, JUMP, DOUBLE};
        for (int kind : kinds) {
            int value = kind == END ? 2 : 1;
            restsDue("kind " + kind, roads(5, 2, kind, value), 0, 3, 302);
            restsDue("kind " + kind + " in bar 0", roads(5, 0, kind, value), 0, 1, 104);
            restsDue("kind " + kind + " in the last bar but one", roads(5, 3, kind, value), 0, 4, 401);
        }
        restsDue("END 4", roads(5, 2, END, 4), 0, 3, 302);
        restsDue("JUMP 12", roads(5, 2, JUMP, 12), 0, 3, 302);
        restsDue("behind one and in front of the next", roads(5, 2, END, 2, 3, START, 1), 0, 3, 302);
        restsDue("in front and behind", roads(5, 2, END, 2, 2, START, 1), 0, 2, 201, 302);
    }

    private static void restsAnotherLength() {
        sentence("Terms, RESTS", "or another length than the bar before");
        ScoreRoads x = new ScoreRoads(5);
        x.bar(2, 17, 10);
        restsDue("longer", x, 0, 2, 201, 302);
        x.bar(2, 15, 10);
        restsDue("shorter", x, 0, 2, 201, 302);
        x.bar(2, 16, 1000);
        restsDue("another tempo alone", x, 0, 5);
        x.bar(2, 16, 10);
        x.bar(0, 1, 10);
        restsDue("bar 0 is shorter", x, 0, 1, 104);
        x.bar(4, 32, 10);
        restsDue("the last bar is longer", x, 0, 1, 103, 401);
        ScoreRoads y = new ScoreRoads(3);
        y.bar(0, 8, 20);
        y.bar(1, 16, 10);
        restsDue("as many ticks, but another length", y, 0, 1, 102);
        ScoreRoads z = new ScoreRoads(4);
        z.bar(1, 8, 10);
        z.note(0, 1, 0, 1, 60, false);
        restsDue("the bar with the note has another length", z, 0, 1, 202);
    }

    private static void restsAtTheEndsOfThePage() {
        sentence("Terms, RESTS", "as far as they are neighbours (the first and the last bar)");
        int[] front = {START, ENDING, SEGNO, CODA, LETTER};
        for (int kind : front) {
            restsDue("in front of bar 0, kind " + kind, roads(5, 0, kind, 1), 0, 5);
            restsDue("a page of one bar, kind " + kind, roads(1, 0, kind, 1), 0, 1);
        }
        int[] behind = {END, FINE, OVER, JUMP, DOUBLE};
        for (int kind : behind) {
            int value = kind == END ? 2 : 1;
            restsDue("behind the last bar, kind " + kind, roads(5, 4, kind, value), 0, 5);
            restsDue("a page of one bar, kind " + kind, roads(1, 0, kind, value), 0, 1);
        }
        ScoreRoads x = new ScoreRoads(3);
        x.bar(0, 15, 10);
        x.bar(1, 15, 10);
        x.bar(2, 15, 10);
        restsDue("all of another length", x, 0, 3);
    }

    private static void restIsFirstBarAndNumber() {
        sentence("Promise 16", "100 times its first bar, and how many bars");
        for (int bars = 1; bars <= 20; bars++) {
            restsDue("a page of " + bars, new ScoreRoads(bars), 2, bars);
            ScoreRoads x = new ScoreRoads(bars);
            x.note(1, 0, 0, 1, 60, false);
            if (bars > 1) {
                restsDue("but for bar 0 of " + bars, x, 1, 100 + bars - 1);
            } else {
                restsDue("but for bar 0 of 1", x, 1);
            }
        }
        ScoreRoads y = roads(20, 19, LETTER, 1);
        restsDue("bar 19 alone", y, 0, 19, 1901);
    }

    private static void restNotSoMany() {
        sentence("Promise 16", "NONE when there are not so many");
        ScoreRoads x = new ScoreRoads(20);
        for (int b = 0; b < 20; b++) {
            x.sign(b, LETTER, 1);
        }
        for (int i = 0; i < 20; i++) {
            due("group " + i, x.rest(0, i), 100 * i + 1);
        }
        due("group 20", x.rest(0, 20), NONE);
        due("group -1", x.rest(0, -1), NONE);
        for (int i : FAR) {
            due("group " + i, x.rest(0, i), NONE);
        }
        ScoreRoads full = new ScoreRoads(20);
        for (int b = 0; b < 20; b++) {
            full.note(0, b, 0, 1, 60, false);
        }
        due("no rests", full.rest(0, 0), NONE);
        due("no rests, group -1", full.rest(0, -1), NONE);
        due("another part", full.rest(1, 0), 20);
        due("another part, no more", full.rest(1, 1), NONE);
    }

    private static void restNoSuchPart() {
        sentence("Promise 16", "IllegalArgumentException when there is no such part");
        ScoreRoads x = roads(1, 0, START, 1);
        for (int part = 0; part <= 2; part++) {
            due("part " + part + ", in spite of a fault", x.rest(part, 0), 1);
        }
        for (int part : NO_PARTS) {
            throwsDue("part " + part, ARGUMENT, () -> x.rest(part, 0));
            throwsDue("part " + part + ", not so many", ARGUMENT, () -> x.rest(part, -1));
            throwsDue("part " + part + ", far", ARGUMENT, () -> x.rest(part, HIGHEST));
        }
    }

    /** Two bars: a note of pitch 60 in the first one, and one of four sixteenths in the second one. */
    private static ScoreRoads two(int start, int length, boolean tie, int nextStart, int nextPitch) {
        ScoreRoads x = new ScoreRoads(2);
        x.note(0, 0, start, length, 60, tie);
        x.note(0, 1, nextStart, 4, nextPitch, false);
        return x;
    }
}
