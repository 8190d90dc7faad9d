/** One method for each promise of the document: ordinary calls, the edges, and wrong calls. */
public final class PromisesTest extends Dues {
    public static void main(String[] args) {
        test(PromisesTest::promise01NewObject);
        test(PromisesTest::promise02Bar);
        test(PromisesTest::promise03Sign);
        test(PromisesTest::promise04SignAt);
        test(PromisesTest::promise05Note);
        test(PromisesTest::promise05Forty);
        test(PromisesTest::promise06Transpose);
        test(PromisesTest::promise07Repeats);
        test(PromisesTest::promise07Endings);
        test(PromisesTest::promise07Jumps);
        test(PromisesTest::promise08Plays);
        test(PromisesTest::promise09PlayedRepeats);
        test(PromisesTest::promise09PlayedEndings);
        test(PromisesTest::promise09PlayedJumps);
        test(PromisesTest::promise09PlayedInsideRepeats);
        test(PromisesTest::promise09Wrong);
        test(PromisesTest::promise10Time);
        test(PromisesTest::promise11Find);
        test(PromisesTest::promise12Tick);
        test(PromisesTest::promise13At);
        test(PromisesTest::promise14Sounds);
        test(PromisesTest::promise14Changes);
        test(PromisesTest::nothingStaysOfALongerRoad);
        test(PromisesTest::promise14Ties);
        test(PromisesTest::promise15Sound);
        test(PromisesTest::promise15Order);
        test(PromisesTest::promise16Rest);
        test(PromisesTest::promise16Cuts);
        end();
    }

    private static void promise01NewObject() {
        for (int bars = 1; bars <= 20; bars++) {
            due("1 bars " + bars, new ScoreRoads(bars).plays(), bars);
        }
        int[] others = {0, 21, -1, 100, Integer.MIN_VALUE, Integer.MAX_VALUE};
        for (int bars : others) {
            due("1 bars " + bars, new ScoreRoads(bars).plays(), 12);
        }
        ScoreRoads x = new ScoreRoads(20);
        for (int b = 0; b < 20; b++) {
            for (int kind = 0; kind < 10; kind++) {
                due("1 sign", x.signAt(b, kind), 0);
            }
            due("1 length and tempo", x.tick(b + 1) - x.tick(b), 160);
        }
        for (int part = 0; part < 3; part++) {
            due("1 sounds", x.sounds(part), 0);
            due("1 rests", x.rest(part, 0), 20);
        }
        due("1 check", x.check(), 0);
        due("1 NONE", ScoreRoads.NONE, -1);
    }

    private static void promise02Bar() {
        ScoreRoads x = new ScoreRoads(3);
        x.bar(0, 1, 1);
        x.bar(1, 32, 1000);
        due("2 shortest", x.tick(1), 1);
        due("2 longest", x.tick(2), 32001);
        due("2 others stay", x.tick(3), 32161);
        throwsDue("2 bar", ARGUMENT, () -> doBar(x, -1, 16, 10));
        throwsDue("2 bar", ARGUMENT, () -> doBar(x, 3, 16, 10));
        throwsDue("2 length", ARGUMENT, () -> doBar(x, 0, 0, 10));
        throwsDue("2 length", ARGUMENT, () -> doBar(x, 0, 33, 10));
        throwsDue("2 tempo", ARGUMENT, () -> doBar(x, 0, 16, 0));
        throwsDue("2 tempo", ARGUMENT, () -> doBar(x, 0, 16, 1001));
        throwsDue("2 tempo", ARGUMENT, () -> doBar(x, 0, 16, Integer.MIN_VALUE));
        due("2 unchanged", x.tick(3), 32161);
        x.note(2, 2, 3, 5, 60, false);
        x.note(0, 2, 0, 2, 60, false);
        throwsDue("2 note over the end", STATE, () -> doBar(x, 2, 7, 20));
        due("2 unchanged by a refusal", x.tick(3), 32161);
        throwsDue("2 argument first", ARGUMENT, () -> doBar(x, 2, 7, 0));
        x.bar(2, 8, 20);
        due("2 note up to the end", x.tick(3), 32161);
        x.bar(1, 7, 1);
        due("2 another bar's note", x.tick(2), 8);
    }

    private static void promise03Sign() {
        int[] least = {1, 2, 1, 1, 1, 1, 1, 1, 1, 1};
        int[] most = {1, 4, 15, 1, 1, 1, 1, 12, 1, 1};
        for (int kind = 0; kind < 10; kind++) {
            ScoreRoads x = new ScoreRoads(2);
            int k = kind;
            int low = least[kind];
            int high = most[kind];
            due("3 none to take", doSign(x, 1, k, 0), 0);
            for (int value = low; value <= high; value++) {
                due("3 put", doSign(x, 1, k, value), 1);
                due("3 put again", doSign(x, 1, k, value), 0);
                due("3 value", x.signAt(1, k), value);
                due("3 take", doSign(x, 1, k, 0), 1);
                due("3 taken", x.signAt(1, k), 0);
            }
            if (low > 1) {
                throwsDue("3 value below", ARGUMENT, () -> doSign(x, 1, k, low - 1));
            }
            throwsDue("3 value below 0", ARGUMENT, () -> doSign(x, 1, k, -1));
            throwsDue("3 value above", ARGUMENT, () -> doSign(x, 1, k, high + 1));
            x.sign(1, k, high);
            throwsDue("3 argument first", ARGUMENT, () -> doSign(x, 1, k, high + 1));
            if (low < high) {
                throwsDue("3 another value", STATE, () -> doSign(x, 1, k, low));
            }
            due("3 unchanged", x.signAt(1, k), high);
            due("3 another bar", x.signAt(0, k), 0);
        }
        ScoreRoads x = new ScoreRoads(2);
        throwsDue("3 bar", ARGUMENT, () -> doSign(x, -1, 0, 1));
        throwsDue("3 bar", ARGUMENT, () -> doSign(x, 2, 0, 1));
        throwsDue("3 bar, taking away", ARGUMENT, () -> doSign(x, 2, 0, 0));
        throwsDue("3 kind", ARGUMENT, () -> doSign(x, 0, -1, 0));
        throwsDue("3 kind", ARGUMENT, () -> doSign(x, 0, 10, 1));
        throwsDue("3 kind", ARGUMENT, () -> doSign(x, 0, Integer.MAX_VALUE, 0));
    }

    private static void promise04SignAt() {
        ScoreRoads x = roads(3, 0, END, 4, 2, JUMP, 9);
        due("4 value", x.signAt(0, END), 4);
        due("4 value", x.signAt(2, JUMP), 9);
        due("4 another kind", x.signAt(0, ENDING), 0);
        due("4 another bar", x.signAt(1, END), 0);
        due("4 no bar", x.signAt(-1, JUMP), 0);
        due("4 no bar", x.signAt(3, 0), 0);
        due("4 no kind", x.signAt(0, -1), 0);
        due("4 no kind", x.signAt(0, 11), 0);
        due("4 no kind, which would be another bar's", x.signAt(0, 27), 0);
        x.sign(1, START, 1);
        due("4 no kind, which would be the next bar's", x.signAt(0, 10), 0);
        due("4 far", x.signAt(Integer.MAX_VALUE, Integer.MIN_VALUE), 0);
    }

    private static void promise05Note() {
        ScoreRoads x = new ScoreRoads(2);
        due("5 first", x.note(0, 0, 0, 16, 0, false), 1);
        due("5 highest pitch, last place", x.note(2, 1, 15, 1, 127, true), 2);
        due("5 another part", x.note(1, 0, 0, 16, 0, false), 3);
        due("5 another start", x.note(0, 0, 1, 15, 0, false), 4);
        due("5 another pitch", x.note(0, 0, 0, 1, 1, false), 5);
        due("5 another bar", x.note(0, 1, 0, 1, 1, false), 6);
        throwsDue("5 part", ARGUMENT, () -> x.note(-1, 0, 0, 1, 5, false));
        throwsDue("5 part", ARGUMENT, () -> x.note(3, 0, 0, 1, 5, false));
        throwsDue("5 bar", ARGUMENT, () -> x.note(0, -1, 0, 1, 5, false));
        throwsDue("5 bar", ARGUMENT, () -> x.note(0, 2, 0, 1, 5, false));
        throwsDue("5 pitch", ARGUMENT, () -> x.note(0, 0, 0, 1, -1, false));
        throwsDue("5 pitch", ARGUMENT, () -> x.note(0, 0, 0, 1, 128, false));
        throwsDue("5 start", ARGUMENT, () -> x.note(0, 0, -1, 1, 5, false));
        throwsDue("5 start", ARGUMENT, () -> x.note(0, 0, Integer.MIN_VALUE, 1, 5, false));
        throwsDue("5 length", ARGUMENT, () -> x.note(0, 0, 0, 0, 5, false));
        throwsDue("5 over the end", ARGUMENT, () -> x.note(0, 0, 0, 17, 5, false));
        throwsDue("5 over the end", ARGUMENT, () -> x.note(0, 0, 16, 1, 5, false));
        throwsDue("5 far over", ARGUMENT, () -> x.note(0, 0, 10, Integer.MAX_VALUE, 5, false));
        throwsDue("5 far over", ARGUMENT, () -> x.note(0, 0, Integer.MAX_VALUE, Integer.MAX_VALUE, 5, false));
        throwsDue("5 there is one", STATE, () -> x.note(0, 0, 0, 4, 0, true));
        throwsDue("5 argument first", ARGUMENT, () -> x.note(0, 0, 0, 17, 0, false));
        x.bar(1, 20, 10);
        due("5 in a longer bar", x.note(0, 1, 16, 4, 5, false), 7);
        due("5 refused ones are none", x.sounds(0) + x.sounds(1) + x.sounds(2), 7);
    }

    private static void promise05Forty() {
        ScoreRoads x = new ScoreRoads(2);
        for (int n = 1; n <= 40; n++) {
            due("5 count", x.note(n % 3, n % 2, n % 16, 1, n, false), n);
        }
        throwsDue("5 there are 40", STATE, () -> x.note(0, 0, 0, 1, 100, false));
        throwsDue("5 argument before 40", ARGUMENT, () -> x.note(0, 0, 0, 1, 128, false));
        due("5 still 40", x.sounds(0) + x.sounds(1) + x.sounds(2), 40);
    }

    private static void promise06Transpose() {
        ScoreRoads x = new ScoreRoads(2);
        x.note(0, 0, 0, 1, 5, false);
        x.note(0, 1, 0, 1, 120, false);
        x.note(1, 0, 0, 1, 60, false);
        due("6 up to the highest", x.transpose(0, 7), 2);
        due("6 pitch", x.sound(0, 0, 1), 12);
        due("6 pitch", x.sound(0, 1, 1), 127);
        due("6 another part's pitch", x.sound(1, 0, 1), 60);
        throwsDue("6 too high", ARGUMENT, () -> x.transpose(0, 1));
        due("6 none has changed", x.sound(0, 0, 1), 12);
        due("6 none has changed", x.sound(0, 1, 1), 127);
        throwsDue("6 too low", ARGUMENT, () -> x.transpose(0, -13));
        due("6 none has changed", x.sound(0, 1, 1), 127);
        due("6 down to the lowest", x.transpose(0, -12), 2);
        due("6 pitch", x.sound(0, 0, 1), 0);
        due("6 by nothing", x.transpose(1, 0), 1);
        throwsDue("6 far", ARGUMENT, () -> x.transpose(0, Integer.MAX_VALUE));
        throwsDue("6 far", ARGUMENT, () -> x.transpose(0, Integer.MIN_VALUE));
        due("6 no notes", x.transpose(2, Integer.MAX_VALUE), 0);
        throwsDue("6 part", ARGUMENT, () -> x.transpose(-1, 0));
        throwsDue("6 part", ARGUMENT, () -> x.transpose(3, 0));
        x.transpose(1, 1);
        throwsDue("6 the new pitch counts", STATE, () -> x.note(1, 0, 0, 1, 61, false));
        due("6 the old one is free", x.note(1, 0, 0, 1, 60, false), 4);
    }

    private static void promise07Repeats() {
        checkDue("7 no signs", 0, roads(4));
        checkDue("7 1 START alone", 102, roads(4, 2, START, 1));
        checkDue("7 1 START with END in it", 0, roads(4, 2, START, 1, 2, END, 2));
        checkDue("7 1 START with END in the last bar", 0, roads(4, 0, START, 1, 3, END, 2));
        checkDue("7 1 END before it only", 102, roads(4, 2, START, 1, 1, END, 2));
        checkDue("7 1 END in the next START's bar", 100, roads(4, 0, START, 1, 1, START, 1, 1, END, 2));
        checkDue("7 1 the first of two", 101, roads(4, 1, START, 1, 3, START, 1));
        checkDue("7 1 the second of two", 103, roads(4, 1, START, 1, 2, END, 2, 3, START, 1));
        checkDue("7 END alone", 0, roads(4, 2, END, 3));
        checkDue("7 other counts without endings", 0, roads(4, 1, END, 3, 2, END, 2, 3, END, 4));
        checkDue("7 1 before 2, though behind it", 103, roads(4, 0, ENDING, 1, 3, START, 1));
    }

    private static void promise07Endings() {
        checkDue("7 2 ENDING without a repeat", 203, roads(5, 3, ENDING, 1));
        checkDue("7 2 ENDING before the START", 201, roads(5, 1, ENDING, 1, 2, START, 1, 3, END, 2, 4, ENDING, 2));
        checkDue("7 2 ENDING behind a repeat without", 202, roads(5, 1, END, 2, 2, ENDING, 1));
        checkDue("7 2 two up to the first END", 201,
                roads(5, 0, ENDING, 1, 1, ENDING, 2, 2, END, 3, 3, ENDING, 4));
        checkDue("7 2 the second one in the bar of the first END", 201,
                roads(5, 0, ENDING, 1, 1, ENDING, 2, 1, END, 2, 2, ENDING, 2));
        checkDue("7 2 a bar between END and ENDING", 203, roads(5, 1, ENDING, 1, 1, END, 2, 3, ENDING, 2));
        checkDue("7 2 an earlier repeat's ending is none of the later one", 204, roads(6, 1, ENDING, 1, 1, END, 2,
                2, ENDING, 2, 2, START, 1, 3, END, 2, 4, ENDING, 2));
        checkDue("7 an earlier repeat's ending is not the first of two", 0, roads(6, 1, ENDING, 1, 1, END, 2,
                2, ENDING, 2, 2, START, 1, 3, ENDING, 1, 3, END, 2, 4, ENDING, 2));
        checkDue("7 two endings", 0, roads(5, 1, ENDING, 1, 2, END, 2, 3, ENDING, 2));
        checkDue("7 3 another count", 302, roads(5, 1, ENDING, 1, 1, END, 3, 2, ENDING, 2, 2, END, 2, 3, ENDING, 4));
        checkDue("7 3 no ENDING behind", 301, roads(5, 1, ENDING, 1, 1, END, 2));
        checkDue("7 3 no bar behind", 304, roads(5, 4, ENDING, 1, 4, END, 2));
        checkDue("7 3 ENDING behind the second END is missing", 302,
                roads(5, 1, ENDING, 1, 1, END, 3, 2, ENDING, 2, 2, END, 3));
        checkDue("7 START makes a new repeat with a count of its own", 0, roads(6, 1, ENDING, 1, 1, END, 2,
                2, ENDING, 2, 3, START, 1, 4, END, 4));
        checkDue("7 4 a pass is missing", 401, roads(5, 1, START, 1, 2, ENDING, 1, 2, END, 3, 3, ENDING, 4));
        checkDue("7 4 a repeat of one bar", 401, roads(5, 1, START, 1, 1, ENDING, 4, 1, END, 2, 2, ENDING, 2));
        checkDue("7 4 a pass is there twice", 400, roads(5, 1, ENDING, 3, 1, END, 2, 2, ENDING, 2));
        checkDue("7 4 a pass too many", 400, roads(5, 1, ENDING, 5, 1, END, 2, 2, ENDING, 2));
        checkDue("7 4 the last ending has not the last pass", 400, roads(5, 1, ENDING, 2, 1, END, 2, 2, ENDING, 1));
        checkDue("7 the passes in any order but for the last", 0,
                roads(5, 1, ENDING, 6, 1, END, 4, 2, ENDING, 9));
        checkDue("7 4 first bar right behind the END before", 402,
                roads(6, 1, END, 2, 3, ENDING, 1, 3, END, 2, 4, ENDING, 4));
        checkDue("7 2 before 4", 204, roads(5, 1, ENDING, 1, 1, END, 2, 2, ENDING, 1, 4, ENDING, 1));
    }

    private static void promise07Jumps() {
        checkDue("7 5 a second SEGNO", 503, roads(5, 0, SEGNO, 1, 3, SEGNO, 1));
        checkDue("7 5 a second CODA", 502, roads(5, 1, CODA, 1, 2, CODA, 1));
        checkDue("7 5 a second JUMP", 504, roads(5, 3, JUMP, 1, 4, JUMP, 1));
        checkDue("7 5 the first bar of them all", 502, roads(5, 0, CODA, 1, 1, JUMP, 1, 2, JUMP, 1, 4, CODA, 1));
        checkDue("7 one of each", 0, roads(5, 0, CODA, 1, 0, SEGNO, 1, 0, JUMP, 1));
        checkDue("7 5 not for FINE, OVER, LETTER, DOUBLE", 0, roads(5, 0, FINE, 1, 1, FINE, 1, 0, OVER, 1, 1, OVER, 1,
                0, LETTER, 1, 1, LETTER, 1, 0, DOUBLE, 1, 1, DOUBLE, 1));
        checkDue("7 6 no SEGNO", 603, roads(5, 3, JUMP, 2));
        checkDue("7 6 SEGNO behind", 603, roads(5, 3, JUMP, 8, 4, SEGNO, 1));
        checkDue("7 SEGNO in the bar", 0, roads(5, 3, JUMP, 8, 3, SEGNO, 1));
        checkDue("7 6 before 7", 603, roads(5, 3, JUMP, 4));
        checkDue("7 5 before 6", 504, roads(5, 3, JUMP, 4, 4, JUMP, 1));
        checkDue("7 7 no FINE", 703, roads(5, 3, JUMP, 3));
        checkDue("7 7 FINE behind", 703, roads(5, 3, JUMP, 9, 4, FINE, 1));
        checkDue("7 FINE in the bar", 0, roads(5, 3, JUMP, 3, 3, FINE, 1));
        checkDue("7 FINE in the first bar", 0, roads(5, 3, JUMP, 3, 0, FINE, 1));
        checkDue("7 7 FINE before the segno", 703, roads(5, 3, JUMP, 4, 2, SEGNO, 1, 1, FINE, 1));
        checkDue("7 FINE at the segno", 0, roads(5, 3, JUMP, 10, 2, SEGNO, 1, 2, FINE, 1));
        checkDue("7 7 no OVER", 703, roads(5, 3, JUMP, 5, 4, CODA, 1));
        checkDue("7 7 OVER behind", 703, roads(5, 3, JUMP, 5, 4, CODA, 1, 4, OVER, 1));
        checkDue("7 7 OVER before the segno", 703, roads(5, 3, JUMP, 6, 1, SEGNO, 1, 0, OVER, 1, 4, CODA, 1));
        checkDue("7 7 no CODA", 703, roads(5, 3, JUMP, 5, 0, OVER, 1));
        checkDue("7 7 CODA in the bar", 703, roads(5, 3, JUMP, 5, 0, OVER, 1, 3, CODA, 1));
        checkDue("7 OVER and CODA", 0, roads(5, 3, JUMP, 11, 3, OVER, 1, 4, CODA, 1));
        checkDue("7 to the end nothing is wanted", 0, roads(5, 3, JUMP, 7));
        ScoreRoads x = roads(5, 3, JUMP, 3);
        due("7 fault", x.check(), 703);
        x.sign(1, FINE, 1);
        due("7 mended", x.check(), 0);
        x.sign(1, FINE, 0);
        due("7 fault again", x.check(), 703);
    }

    private static void promise08Plays() {
        due("8 one", new ScoreRoads(1).plays(), 1);
        due("8 repeat", roads(5, 2, START, 1, 3, END, 4).plays(), 11);
        ScoreRoads x = roads(5, 2, START, 1);
        due("8 fault", x.plays(), NONE);
        x.sign(2, START, 0);
        due("8 mended", x.plays(), 5);
        due("8 jump", roads(5, 3, JUMP, 1).plays(), 9);
        ScoreRoads most = new ScoreRoads(20);
        for (int b = 0; b < 20; b++) {
            most.sign(b, END, 4);
        }
        most.sign(19, JUMP, 7);
        due("8 each bar eight times", most.plays(), 160);
        due("8 three ways through a long repeat", threeWays().plays(), 202);
    }

    private static void promise09PlayedRepeats() {
        playedDue("9 road", "0 1 2 3", roads(4));
        playedDue("9 road", "0 1 2",
                roads(3, 0, SEGNO, 1, 1, FINE, 1, 1, OVER, 1, 2, CODA, 1, 1, LETTER, 1, 1, DOUBLE, 1));
        playedDue("9 road", "0 1 0 1 0 1 2 3", roads(4, 1, END, 3));
        playedDue("9 road", "0 1 1 2", roads(3, 1, START, 1, 1, END, 2));
        playedDue("9 road", "0 1 0 1 2 3 2 3", roads(4, 1, END, 2, 3, END, 2));
        playedDue("9 road", "0 1 0 1 2 3 3 3 4", roads(5, 1, END, 2, 3, START, 1, 3, END, 3));
        playedDue("9 road", "0 1 2 1 2 3 4 4", roads(5, 1, START, 1, 2, END, 2, 4, START, 1, 4, END, 2));
    }

    private static void promise09PlayedEndings() {
        playedDue("9 road", "0 1 2 3 1 2 3 1 4 5", roads(6, 1, START, 1, 2, ENDING, 3, 3, END, 3, 4, ENDING, 4));
        playedDue("9 road", "0 1 0 2 0 3 4", roads(5, 1, ENDING, 1, 1, END, 3, 2, ENDING, 2, 2, END, 3, 3, ENDING, 4));
        playedDue("9 road", "0 2 0 1 0 3 4", roads(5, 1, ENDING, 2, 1, END, 3, 2, ENDING, 1, 2, END, 3, 3, ENDING, 4));
        playedDue("9 road", "0 2 3", roads(4, 1, ENDING, 2, 1, END, 3, 2, ENDING, 5));
        playedDue("9 road", "0 1 0 2 3 0 4", roads(5, 1, ENDING, 1, 1, END, 3, 2, ENDING, 2, 3, END, 3, 4, ENDING, 4));
        playedDue("9 road", "0 1 0 2 3 2 3 4", roads(5, 1, ENDING, 1, 1, END, 2, 2, ENDING, 2, 2, START, 1, 3, END, 2));
        playedDue("9 road", "0 1 0 2 3 2 4", roads(5, 1, ENDING, 1, 1, END, 2, 2, ENDING, 2, 2, START, 1,
                3, ENDING, 1, 3, END, 2, 4, ENDING, 2));
        playedDue("9 road", "0 0 0 1", roads(2, 0, ENDING, 7, 0, END, 4, 1, ENDING, 8));
    }

    private static void promise09PlayedJumps() {
        playedDue("9 road", "0 1 0 1 2 3 0 1 2 3", roads(4, 1, END, 2, 3, JUMP, 1));
        playedDue("9 road", "0 1 0 1 2 3 0 1 0 1 2 3", roads(4, 1, END, 2, 3, JUMP, 7));
        playedDue("9 road", "0 1 2 1 2 3", roads(4, 1, SEGNO, 1, 2, JUMP, 2));
        playedDue("9 road", "0 1 0 1 2", roads(3, 0, SEGNO, 1, 1, JUMP, 2));
        playedDue("9 road", "0 1 2 2 3", roads(4, 2, SEGNO, 1, 2, JUMP, 8));
        playedDue("9 road", "0 1 2 3 0 1", roads(5, 1, FINE, 1, 3, JUMP, 3));
        playedDue("9 road", "0 1 2 3 1 2", roads(5, 0, FINE, 1, 1, SEGNO, 1, 2, FINE, 1, 3, JUMP, 4));
        playedDue("9 road", "0 1 2 3 0 1 2 3 4", roads(5, 1, FINE, 1, 3, JUMP, 1));
        playedDue("9 road", "0 1 2 3 0 1 4 5", roads(6, 1, OVER, 1, 3, JUMP, 5, 4, CODA, 1));
        playedDue("9 road", "0 1 2 3 1 2 5", roads(6, 0, OVER, 1, 1, SEGNO, 1, 2, OVER, 1, 3, JUMP, 6, 5, CODA, 1));
        playedDue("9 road", "0 1 0 1 2 3 4 5", roads(6, 1, OVER, 1, 1, JUMP, 7, 4, CODA, 1));
        playedDue("9 road", "0 1 0 1 3 4 5", roads(6, 1, OVER, 1, 1, JUMP, 5, 3, CODA, 1, 4, OVER, 1));
        playedDue("9 road", "0 1 2 0 1", roads(3, 2, JUMP, 3, 1, FINE, 1, 0, OVER, 1));
    }

    private static void promise09PlayedInsideRepeats() {
        playedDue("9 road", "0 1 0 1 2 3 0 1", roads(4, 1, END, 2, 1, FINE, 1, 3, JUMP, 3));
        playedDue("9 road", "0 1 0 1 2 3 0 1 0 1", roads(4, 1, END, 2, 1, FINE, 1, 3, JUMP, 9));
        playedDue("9 road", "0 1 0 1 2 3 0 1 0", roads(4, 1, END, 2, 0, FINE, 1, 3, JUMP, 9));
        playedDue("9 road", "0 1 0 1 2 3 0 4", roads(5, 1, END, 2, 0, OVER, 1, 3, JUMP, 5, 4, CODA, 1));
        playedDue("9 road", "0 1 0 1 2 3 0 1 2 4",
                roads(5, 1, END, 2, 0, SEGNO, 1, 2, OVER, 1, 3, JUMP, 6, 4, CODA, 1));
        playedDue("9 road", "0 1 0 1 2 3 0 1 0 4", roads(5, 1, END, 2, 0, OVER, 1, 3, JUMP, 11, 4, CODA, 1));
        playedDue("9 road", "0 1 0 0 1 2", roads(3, 0, JUMP, 1, 1, END, 2));
        playedDue("9 road", "0 1 0 0 1 0 1 2", roads(3, 0, JUMP, 7, 1, END, 2));
        playedDue("9 road", "0 1 0 1 0 1", roads(2, 1, END, 2, 1, JUMP, 1));
        playedDue("9 road", "0 1 0 2 3", roads(4, 1, ENDING, 1, 1, END, 2, 1, JUMP, 1, 2, ENDING, 2));
        playedDue("9 road", "0 1 0 2 3 2 3", roads(4, 1, ENDING, 1, 1, END, 2, 1, SEGNO, 1, 2, ENDING, 2, 3, JUMP, 2));
        playedDue("9 road", "0 1 0 2 3 1 0 2 3",
                roads(4, 1, ENDING, 1, 1, END, 2, 1, SEGNO, 1, 2, ENDING, 2, 3, JUMP, 8));
        playedDue("9 road", "0 1 0 2 2 3", roads(4, 1, ENDING, 1, 1, END, 2, 2, SEGNO, 1, 2, ENDING, 2, 2, JUMP, 8));
        playedDue("9 road", "0 1 2 0 3 4 2 3 4",
                roads(5, 1, ENDING, 1, 2, END, 2, 2, SEGNO, 1, 3, ENDING, 2, 4, JUMP, 2));
        playedDue("9 road", "0 1 0 1 2 3 2 3 4",
                roads(5, 0, ENDING, 1, 0, END, 2, 0, OVER, 1, 1, ENDING, 2, 1, JUMP, 11,
                2, CODA, 1, 3, OVER, 1));
        playedDue("9 road", "0 3 0 1 2 0 0 3 0 1 2 0 2 3 0 1 2 0 4 5", roads(6, 0, JUMP, 11, 0, OVER, 1, 1, ENDING, 2,
                2, CODA, 1, 2, END, 3, 3, ENDING, 1, 3, END, 3, 4, ENDING, 4));
        playedDue("9 road", "0 1 2 3 4 2 0 1 2 3 4 2 3 5 6 3 4 2 3 5 6 7", roads(8, 0, ENDING, 1, 0, END, 2, 0, OVER, 1,
                1, ENDING, 2, 2, START, 1, 2, JUMP, 11, 3, CODA, 1, 4, ENDING, 1, 4, END, 2, 5, ENDING, 2,
                6, OVER, 1));
    }

    private static void promise09Wrong() {
        ScoreRoads x = roads(3, 2, END, 2);
        throwsDue("9 below", INDEX, () -> x.played(-1));
        throwsDue("9 above", INDEX, () -> x.played(6));
        throwsDue("9 far", INDEX, () -> x.played(Integer.MAX_VALUE));
        throwsDue("9 far", INDEX, () -> x.played(Integer.MIN_VALUE));
        due("9 last", x.played(5), 2);
        x.sign(1, ENDING, 1);
        throwsDue("9 fault", STATE, () -> x.played(0));
        throwsDue("9 fault first", STATE, () -> x.played(-1));
    }

    private static void promise10Time() {
        ScoreRoads x = roads(4, 1, END, 3, 3, JUMP, 1);
        int[] times = {1, 1, 2, 2, 3, 3, 1, 1, 4, 4, 2, 2};
        for (int i = 0; i < times.length; i++) {
            due("10 time " + i, x.time(i), times[i]);
        }
        throwsDue("10 below", INDEX, () -> x.time(-1));
        throwsDue("10 above", INDEX, () -> x.time(12));
        x.sign(3, START, 1);
        throwsDue("10 fault", STATE, () -> x.time(0));
        throwsDue("10 fault first", STATE, () -> x.time(99));
    }

    private static void promise11Find() {
        ScoreRoads x = roads(4, 1, END, 3, 3, JUMP, 1);
        due("11 first", x.find(0, 1), 0);
        due("11 second", x.find(1, 2), 3);
        due("11 behind the jump", x.find(1, 4), 9);
        due("11 last", x.find(3, 2), 11);
        due("11 too often", x.find(3, 3), NONE);
        due("11 the 0th", x.find(0, 0), NONE);
        due("11 below", x.find(0, -1), NONE);
        due("11 no bar", x.find(4, 1), NONE);
        due("11 no bar", x.find(-1, 1), NONE);
        due("11 never played", roads(4, 1, ENDING, 2, 1, END, 3, 2, ENDING, 5).find(1, 1), NONE);
        x.sign(3, START, 1);
        throwsDue("11 fault", STATE, () -> x.find(0, 1));
        throwsDue("11 fault first", STATE, () -> x.find(-1, 0));
    }

    private static void promise12Tick() {
        ScoreRoads x = roads(3, 1, END, 2);
        x.bar(0, 8, 3);
        x.bar(1, 32, 1000);
        long[] ticks = {0, 24, 32024, 32048, 64048, 64208};
        for (int i = 0; i < ticks.length; i++) {
            due("12 tick " + i, x.tick(i), ticks[i]);
        }
        throwsDue("12 above", INDEX, () -> x.tick(6));
        throwsDue("12 below", INDEX, () -> x.tick(-1));
        throwsDue("12 far", INDEX, () -> x.tick(Integer.MAX_VALUE));
        x.sign(2, ENDING, 1);
        throwsDue("12 fault", STATE, () -> x.tick(0));
        throwsDue("12 fault first", STATE, () -> x.tick(-1));
    }

    private static void promise13At() {
        ScoreRoads x = roads(3, 1, END, 2);
        x.bar(0, 8, 3);
        long[] ends = {24, 184, 208, 368, 528};
        long begin = 0;
        for (int i = 0; i < ends.length; i++) {
            due("13 first tick of " + i, x.at(begin), i);
            due("13 last tick of " + i, x.at(ends[i] - 1), i);
            begin = ends[i];
        }
        due("13 behind", x.at(528), NONE);
        due("13 far behind", x.at(Long.MAX_VALUE), NONE);
        due("13 no wrap to int", x.at(1L << 32), NONE);
        due("13 before", x.at(-1), NONE);
        due("13 far before", x.at(Long.MIN_VALUE), NONE);
        x.bar(2, 1, 1);
        due("13 shorter", x.at(369), NONE);
        x.sign(2, ENDING, 1);
        throwsDue("13 fault", STATE, () -> x.at(0));
        throwsDue("13 fault first", STATE, () -> x.at(-1));
    }

    private static void promise14Sounds() {
        ScoreRoads x = new ScoreRoads(3);
        x.note(0, 0, 0, 4, 60, false);
        x.note(0, 1, 0, 4, 60, false);
        x.note(0, 1, 4, 4, 60, false);
        x.note(1, 2, 0, 4, 60, false);
        due("14 part 0", x.sounds(0), 3);
        due("14 part 1", x.sounds(1), 1);
        due("14 part 2", x.sounds(2), 0);
        x.sign(1, END, 4);
        due("14 repeated", x.sounds(0), 12);
        due("14 not repeated", x.sounds(1), 1);
        throwsDue("14 part", ARGUMENT, () -> x.sounds(-1));
        throwsDue("14 part", ARGUMENT, () -> x.sounds(3));
        x.sign(2, START, 1);
        throwsDue("14 fault", STATE, () -> x.sounds(2));
        throwsDue("14 part first", ARGUMENT, () -> x.sounds(3));
    }

    private static void promise14Changes() {
        ScoreRoads x = tied(0, 16, true, 0, 60);
        due("14 at first", x.sounds(0), 1);
        x.bar(0, 17, 10);
        due("14 behind bar", x.sounds(0), 2);
        x.bar(0, 16, 10);
        due("14 behind bar", x.sounds(0), 1);
        x.sign(1, END, 2);
        due("14 behind sign", x.sounds(0), 2);
        x.note(0, 0, 0, 1, 61, false);
        due("14 behind note", x.sounds(0), 4);
        x.sign(1, END, 0);
        due("14 behind a sign taken away", x.sounds(0), 2);
        ScoreRoads most = threeWays();
        for (int n = 0; n < 40; n++) {
            most.note(1, 3, n % 16, 1, 100 - n, true);
        }
        due("14 forty notes eleven times", most.sounds(1), 440);
        due("14 the last one", most.sound(1, 439, 0), most.tick(most.find(3, 11)) + 150);
        due("14 the last one", most.sound(1, 439, 1), 85);
    }

    private static void nothingStaysOfALongerRoad() {
        ScoreRoads x = roads(2, 1, END, 2);
        x.note(0, 1, 0, 16, 60, true);
        x.note(0, 0, 0, 4, 60, false);
        due("11 longer", x.find(0, 2), 2);
        due("14 longer", x.sounds(0), 3);
        due("15 longer", x.sound(0, 1, 2), 20);
        due("15 longer", x.sound(0, 2, 2), 16);
        x.sign(1, END, 0);
        due("8 shorter", x.plays(), 2);
        throwsDue("9 shorter", INDEX, () -> x.played(2));
        throwsDue("10 shorter", INDEX, () -> x.time(2));
        due("11 shorter", x.find(0, 2), NONE);
        throwsDue("12 shorter", INDEX, () -> x.tick(3));
        due("13 shorter", x.at(320), NONE);
        due("14 shorter", x.sounds(0), 2);
        due("15 shorter", x.sound(0, 1, 2), 16);
        due("15 shorter", x.sound(0, 2, 2), NONE);
    }

    private static void promise14Ties() {
        due("14 tied", tied(0, 16, true, 0, 60).sounds(0), 1);
        due("14 no tie", tied(0, 16, false, 0, 60).sounds(0), 2);
        due("14 not to the bar's end", tied(0, 15, true, 0, 60).sounds(0), 2);
        due("14 the end is what counts", tied(12, 4, true, 0, 60).sounds(0), 1);
        due("14 not at the start", tied(0, 16, true, 1, 60).sounds(0), 2);
        due("14 another pitch", tied(0, 16, true, 0, 61).sounds(0), 2);
        ScoreRoads parts = tied(0, 16, true, 0, 61);
        parts.note(1, 1, 0, 4, 60, false);
        due("14 another part", parts.sounds(0), 2);
        due("14 another part", parts.sounds(1), 1);
        ScoreRoads longer = tied(0, 16, true, 0, 60);
        longer.bar(0, 17, 10);
        due("14 the bar has grown", longer.sounds(0), 2);
        ScoreRoads last = new ScoreRoads(1);
        last.note(0, 0, 0, 16, 60, true);
        due("14 nothing behind", last.sounds(0), 1);
        due("14 nothing behind", last.sound(0, 0, 2), 16);
        last.sign(0, END, 4);
        due("14 into itself", last.sounds(0), 1);
        due("14 into itself", last.sound(0, 0, 2), 64);
        ScoreRoads jump = roads(3, 1, JUMP, 1);
        jump.note(0, 1, 0, 16, 60, true);
        jump.note(0, 2, 0, 3, 60, false);
        jump.note(0, 0, 0, 5, 60, false);
        due("14 into the bar that is played next", jump.sounds(0), 3);
        due("14 first", jump.sound(0, 0, 2), 5);
        due("14 over the jump", jump.sound(0, 1, 2), 21);
        due("14 over to the next bar", jump.sound(0, 2, 2), 19);
        ScoreRoads two = tied(0, 16, true, 0, 60);
        two.note(0, 0, 8, 8, 60, true);
        due("14 two go on in one", two.sounds(0), 2);
        due("14 the longer", two.sound(0, 0, 2), 20);
        due("14 the shorter", two.sound(0, 1, 2), 12);
    }

    private static void promise15Sound() {
        ScoreRoads x = new ScoreRoads(3);
        x.bar(0, 16, 10);
        x.bar(1, 8, 100);
        x.bar(2, 4, 7);
        x.note(0, 0, 12, 4, 60, true);
        x.note(0, 1, 0, 8, 60, true);
        x.note(0, 2, 0, 3, 60, false);
        soundDue("15 over three bars", x, 0, 0, 120, 60, 15, 40 + 800 + 21);
        soundDue("15 none such", x, 0, 1, NONE, NONE, NONE, NONE);
        soundDue("15 below", x, 0, -1, NONE, NONE, NONE, NONE);
        soundDue("15 far", x, 0, Integer.MAX_VALUE, NONE, NONE, NONE, NONE);
        due("15 no such what", x.sound(0, 0, 4), NONE);
        due("15 no such what", x.sound(0, 0, -1), NONE);
        due("15 no such what", x.sound(0, 0, Integer.MIN_VALUE), NONE);
        due("15 another part", x.sound(1, 0, 0), NONE);
        x.sign(2, END, 2);
        soundDue("15 first time", x, 0, 0, 120, 60, 15, 861);
        soundDue("15 second time", x, 0, 1, 988 + 120, 60, 15, 861);
        x.bar(2, 3, 7);
        soundDue("15 a bar has changed", x, 0, 1, 981 + 120, 60, 15, 861);
        x.note(0, 2, 1, 2, 0, false);
        soundDue("15 a note more", x, 0, 1, 967, 0, 2, 14);
        x.transpose(0, 10);
        soundDue("15 transposed", x, 0, 1, 967, 10, 2, 14);
        throwsDue("15 part", ARGUMENT, () -> x.sound(3, 0, 0));
        throwsDue("15 part", ARGUMENT, () -> x.sound(-1, 0, 0));
        x.sign(0, ENDING, 1);
        throwsDue("15 fault", STATE, () -> x.sound(0, 0, 0));
        throwsDue("15 fault before none such", STATE, () -> x.sound(0, 99, 99));
        throwsDue("15 part first", ARGUMENT, () -> x.sound(3, 0, 0));
    }

    private static void promise15Order() {
        ScoreRoads x = new ScoreRoads(2);
        x.note(0, 1, 0, 1, 5, false);
        x.note(0, 0, 3, 1, 90, false);
        x.note(0, 0, 3, 1, 20, false);
        x.note(0, 0, 1, 1, 100, false);
        x.note(0, 0, 3, 1, 50, false);
        x.note(1, 0, 3, 1, 55, false);
        pitchesDue("15 order", x, 0, 100, 20, 50, 90, 5);
        x.transpose(0, 10);
        x.note(0, 0, 3, 1, 58, false);
        pitchesDue("15 order when one comes behind a transposition", x, 0, 110, 30, 58, 60, 100, 15);
        pitchesDue("15 order of another part", x, 1, 55);
        x.sign(0, END, 2);
        pitchesDue("15 order by played bars", x, 0, 110, 30, 58, 60, 100, 110, 30, 58, 60, 100, 15);
        ScoreRoads back = roads(2, 1, JUMP, 1);
        back.note(2, 0, 0, 1, 7, false);
        back.note(2, 1, 0, 1, 3, false);
        pitchesDue("15 order over a jump", back, 2, 7, 3, 7, 3);
        ScoreRoads both = new ScoreRoads(1);
        both.note(0, 0, 0, 1, 60, false);
        both.note(1, 0, 0, 1, 62, false);
        both.transpose(0, 10);
        both.note(0, 0, 0, 1, 65, false);
        pitchesDue("15 order beside another part", both, 0, 65, 70);
    }

    private static void promise16Rest() {
        ScoreRoads x = new ScoreRoads(6);
        restsDue("16 all", x, 0, 6);
        x.note(0, 2, 0, 1, 60, false);
        restsDue("16 before and behind", x, 0, 2, 303);
        restsDue("16 another part", x, 1, 6);
        x.note(0, 0, 0, 1, 60, false);
        x.note(0, 5, 0, 1, 60, false);
        restsDue("16 notes at both ends", x, 0, 101, 302);
        x.sign(4, START, 1);
        due("16 fault", x.check(), 104);
        restsDue("16 in spite of a fault", x, 0, 101, 301, 401);
        due("16 below", x.rest(0, -1), NONE);
        due("16 far", x.rest(0, Integer.MAX_VALUE), NONE);
        due("16 far", x.rest(0, Integer.MIN_VALUE), NONE);
        throwsDue("16 part", ARGUMENT, () -> x.rest(3, 0));
        throwsDue("16 part", ARGUMENT, () -> x.rest(-1, 0));
        ScoreRoads full = new ScoreRoads(1);
        full.note(2, 0, 0, 1, 60, false);
        restsDue("16 no rests", full, 2);
    }

    private static void promise16Cuts() {
        int[] before = {START, ENDING, SEGNO, CODA, LETTER};
        for (int kind : before) {
            restsDue("16 in front of kind " + kind, roads(5, 2, kind, 1), 0, 2, 203);
            restsDue("16 in front of bar 0", roads(5, 0, kind, 1), 0, 5);
        }
        int[] behind = {END, FINE, OVER, JUMP, DOUBLE};
        for (int kind : behind) {
            int value = kind == END ? 2 : 1;
            restsDue("16 behind kind " + kind, roads(5, 2, kind, value), 0, 3, 302);
            restsDue("16 behind the last bar", roads(5, 4, kind, value), 0, 5);
        }
        ScoreRoads x = new ScoreRoads(5);
        x.bar(2, 15, 10);
        restsDue("16 another length", x, 0, 2, 201, 302);
        x.bar(3, 15, 99);
        restsDue("16 not another tempo", x, 0, 2, 202, 401);
        x.note(0, 1, 0, 1, 60, false);
        restsDue("16 a cut behind a note", x, 0, 1, 202, 401);
        restsDue("16 both at once", roads(4, 1, END, 2, 2, START, 1), 2, 2, 202);
    }

    /** Two bars: a note of pitch 60 in the first one, and one of four sixteenths in the second one. */
    private static ScoreRoads tied(int start, int length, boolean tie, int nextStart, int nextPitch) {
        ScoreRoads x = new ScoreRoads(2);
        x.note(0, 0, start, length, 60, tie);
        x.note(0, 1, nextStart, 4, nextPitch, false);
        return x;
    }
}
