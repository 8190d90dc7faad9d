/** The boundary cases of repeats, faults and the road: a method for each sentence, promises 7 to 13. */
public final class BoundaryRoadTest extends Dues {
    private static final int[] FAR = {LOWEST, LOWEST + 1, HIGHEST - 1, HIGHEST};

    public static void main(String[] args) {
        test(BoundaryRoadTest::repeatsGoOnBehindAnEnding);
        test(BoundaryRoadTest::repeatsNoStartBetween);
        test(BoundaryRoadTest::repeatsFirstBarNotBehindTheEnd);
        test(BoundaryRoadTest::repeatsFirstBarBehindTheEndBefore);
        test(BoundaryRoadTest::repeatsFirstBarWithoutStart);
        test(BoundaryRoadTest::repeatsCountOfTheFirstEnd);
        test(BoundaryRoadTest::repeatsEndingsFromTheFirstBar);
        test(BoundaryRoadTest::repeatsEndingsUpToTheFirstEnd);
        test(BoundaryRoadTest::repeatsEndingsRightBehindAnEnd);
        test(BoundaryRoadTest::repeatsEndingsIfThereAreAny);
        test(BoundaryRoadTest::repeatsEndingOfAnEarlierOne);
        test(BoundaryRoadTest::checkingLeastFault);
        test(BoundaryRoadTest::checkingFirstBar);
        test(BoundaryRoadTest::fault1StartWithoutEnd);
        test(BoundaryRoadTest::fault1BeforeTheNextStart);
        test(BoundaryRoadTest::fault2NoEndingOfARepeat);
        test(BoundaryRoadTest::fault2SecondUpToTheFirstEnd);
        test(BoundaryRoadTest::fault3AnotherCount);
        test(BoundaryRoadTest::fault3NoEndingBehind);
        test(BoundaryRoadTest::fault4EachPassInJustOne);
        test(BoundaryRoadTest::fault4NoOtherPass);
        test(BoundaryRoadTest::fault4LastEndingHasTheLastPass);
        test(BoundaryRoadTest::fault4FirstBar);
        test(BoundaryRoadTest::fault5ASecondOne);
        test(BoundaryRoadTest::fault6NoSegnoUpToTheJump);
        test(BoundaryRoadTest::fault7NoFine);
        test(BoundaryRoadTest::fault7NoOver);
        test(BoundaryRoadTest::fault7NoCodaBehind);
        test(BoundaryRoadTest::playingFromBar0ToTheLastBar);
        test(BoundaryRoadTest::playingTakenBehindAJump);
        test(BoundaryRoadTest::playingNextEndingLikewise);
        test(BoundaryRoadTest::playingNoNextEnding);
        test(BoundaryRoadTest::playingEndingNotTaken);
        test(BoundaryRoadTest::playingPassIs1BehindTheLastPass);
        test(BoundaryRoadTest::playingPassBelowTheCount);
        test(BoundaryRoadTest::playingPassIs1AtTheCount);
        test(BoundaryRoadTest::playingFine);
        test(BoundaryRoadTest::playingFineToComeAgain);
        test(BoundaryRoadTest::playingOver);
        test(BoundaryRoadTest::playingOverDoesNothingMore);
        test(BoundaryRoadTest::playingOverToComeAgain);
        test(BoundaryRoadTest::playingJumpOnce);
        test(BoundaryRoadTest::playingJumpToComeAgain);
        test(BoundaryRoadTest::playingJumpMakesAllPasses1);
        test(BoundaryRoadTest::toComeAgainUpToTheLastEnd);
        test(BoundaryRoadTest::toComeAgainAsItWasWhenTheBarCame);
        test(BoundaryRoadTest::checkIs0);
        test(BoundaryRoadTest::checkIsFaultAndBar);
        test(BoundaryRoadTest::plays);
        test(BoundaryRoadTest::playsNoneWithAFault);
        test(BoundaryRoadTest::played);
        test(BoundaryRoadTest::playedNotSoMany);
        test(BoundaryRoadTest::time);
        test(BoundaryRoadTest::timeNotSoMany);
        test(BoundaryRoadTest::find);
        test(BoundaryRoadTest::findNone);
        test(BoundaryRoadTest::tick);
        test(BoundaryRoadTest::tickOfAll);
        test(BoundaryRoadTest::tickNotSoMany);
        test(BoundaryRoadTest::at);
        test(BoundaryRoadTest::atNone);
        test(BoundaryRoadTest::faultBeforeAllElse);
        end();
    }

    private static void repeatsGoOnBehindAnEnding() {
        sentence("Terms, REPEATS",
                "goes on with the repeat of the END before it, if the bar right behind that one has ENDING");
        playedDue("right behind", "0 1 0 2 3 0 4 5",
                roads(6, 1, ENDING, 1, 1, END, 3, 2, ENDING, 2, 3, END, 3, 4, ENDING, 4));
        checkDue("a bar later, with an END: a repeat of its own", 301,
                roads(6, 1, ENDING, 1, 1, END, 2, 3, ENDING, 1, 3, END, 2, 4, ENDING, 2));
        checkDue("in the END's own bar alone", 301, roads(6, 1, ENDING, 1, 1, END, 2, 2, END, 2));
        playedDue("no ENDING", "0 1 0 1 2 3 2 3", roads(4, 1, END, 2, 3, END, 2));
        playedDue("no ENDING, END right behind END", "0 0 1 1 1 2", roads(3, 0, END, 2, 1, END, 3));
    }

    private static void repeatsNoStartBetween() {
        sentence("Terms, REPEATS", "and no bar from there to its own has START");
        checkDue("none", 303, roads(6, 1, ENDING, 1, 1, END, 2, 2, ENDING, 2, 3, END, 2));
        playedDue("in the bar right behind", "0 1 0 2 3 2 3 4",
                roads(5, 1, ENDING, 1, 1, END, 2, 2, ENDING, 2, 2, START, 1, 3, END, 2));
        playedDue("in between", "0 1 0 2 3 4 3 4 5",
                roads(6, 1, ENDING, 1, 1, END, 2, 2, ENDING, 2, 3, START, 1, 4, END, 2));
        playedDue("in its own bar", "0 1 0 2 3 3 4",
                roads(5, 1, ENDING, 1, 1, END, 2, 2, ENDING, 2, 3, START, 1, 3, END, 2));
        playedDue("in its own bar, right behind", "0 1 0 2 2 3",
                roads(4, 1, ENDING, 1, 1, END, 2, 2, ENDING, 2, 2, START, 1, 2, END, 2));
        playedDue("in the bar of the END before, which is not from there on", "0 1 2 3 4",
                roads(5, 1, START, 1, 1, ENDING, 1, 1, END, 3, 2, ENDING, 2, 2, END, 3, 3, ENDING, 4));
    }

    private static void repeatsFirstBarNotBehindTheEnd() {
        sentence("Terms, REPEATS", "FIRST BAR is the last bar with START that is not behind it");
        playedDue("in its own bar", "0 1 1 2", roads(3, 1, START, 1, 1, END, 2));
        playedDue("right before it", "0 1 2 1 2 3", roads(4, 1, START, 1, 2, END, 2));
        playedDue("right behind it: of the next one", "0 1 0 1 2 2", roads(3, 1, END, 2, 2, START, 1, 2, END, 2));
        playedDue("in bar 0", "0 1 0 1 2", roads(3, 0, START, 1, 1, END, 2));
        playedDue("in the last bar", "0 1 2 2", roads(3, 2, START, 1, 2, END, 2));
    }

    private static void repeatsFirstBarBehindTheEndBefore() {
        sentence("Terms, REPEATS", "but behind the END before it (if there is one)");
        playedDue("in the bar of the END before", "0 1 1 2 3 2 3 4",
                roads(5, 1, START, 1, 1, END, 2, 3, END, 2));
        playedDue("right behind the END before", "0 1 0 1 2 3 2 3 4",
                roads(5, 1, END, 2, 2, START, 1, 3, END, 2));
        playedDue("two bars behind the END before", "0 1 0 1 2 3 4 3 4",
                roads(5, 1, END, 2, 3, START, 1, 4, END, 2));
        playedDue("long before the END before", "0 1 2 0 1 2 3 4 3 4", roads(5, 0, START, 1, 2, END, 2, 4, END, 2));
    }

    private static void repeatsFirstBarWithoutStart() {
        sentence("Terms, REPEATS", "if there is none, the bar right behind the END before it, or bar 0");
        playedDue("bar 0", "0 1 2 0 1 2", roads(3, 2, END, 2));
        playedDue("bar 0 itself", "0 0 1 2", roads(3, 0, END, 2));
        playedDue("right behind", "0 1 0 1 2 3 2 3 4", roads(5, 1, END, 2, 3, END, 2));
        playedDue("right behind, in each bar", "0 0 1 1 2 2", roads(3, 0, END, 2, 1, END, 2, 2, END, 2));
        playedDue("a page of one bar", "0 0 0 0", roads(1, 0, END, 4));
        due("the last of 20 bars", roads(20, 19, END, 4).plays(), 80);
        due("each of 20 bars", endInEachOf20().plays(), 80);
    }

    private static ScoreRoads endInEachOf20() {
        ScoreRoads x = new ScoreRoads(20);
        for (int b = 0; b < 20; b++) {
            x.sign(b, END, 4);
        }
        return x;
    }

    private static void repeatsCountOfTheFirstEnd() {
        sentence("Terms, REPEATS", "The COUNT of a repeat is that of its first END");
        checkDue("a later END has more", 302,
                roads(5, 1, ENDING, 1, 1, END, 2, 2, ENDING, 2, 2, END, 3, 3, ENDING, 4));
        checkDue("a later END has less", 302,
                roads(5, 1, ENDING, 1, 1, END, 3, 2, ENDING, 2, 2, END, 2, 3, ENDING, 4));
        playedDue("of each repeat its own", "0 0 0 0 1 1 2 2 2", roads(3, 0, END, 4, 1, END, 2, 2, END, 3));
    }

    private static void repeatsEndingsFromTheFirstBar() {
        sentence("Terms, REPEATS", "ENDINGS are the bars with ENDING from its first bar on");
        playedDue("in its first bar", "0 1 2 3 4", roads(5, 1, START, 1, 1, ENDING, 1, 2, END, 2, 3, ENDING, 2));
        playedDue("right behind its first bar", "0 1 2 1 3 4",
                roads(5, 1, START, 1, 2, ENDING, 1, 2, END, 2, 3, ENDING, 2));
        playedDue("in bar 0", "0 1 2 3", roads(4, 0, ENDING, 1, 1, END, 2, 2, ENDING, 2));
        checkDue("right before its first bar", 201,
                roads(6, 1, ENDING, 1, 2, START, 1, 3, END, 2));
        checkDue("right before its first bar, with one inside", 201,
                roads(6, 1, ENDING, 1, 2, START, 1, 3, ENDING, 1, 3, END, 2, 4, ENDING, 2));
    }

    private static void repeatsEndingsUpToTheFirstEnd() {
        sentence("Terms, REPEATS", "to its first END (itself, too)");
        playedDue("in the bar of its first END", "0 1 0 2 3", roads(4, 1, ENDING, 1, 1, END, 2, 2, ENDING, 2));
        playedDue("right before its first END", "0 1 2 0 3", roads(4, 1, ENDING, 1, 2, END, 2, 3, ENDING, 2));
        checkDue("right behind its first END, none before", 202, roads(4, 1, END, 2, 2, ENDING, 3));
    }

    private static void repeatsEndingsRightBehindAnEnd() {
        sentence("Terms, REPEATS", "each bar with ENDING right behind one of its ENDs");
        playedDue("behind each END", "0 1 0 2 3 0 4 5",
                roads(6, 1, ENDING, 1, 1, END, 3, 2, ENDING, 2, 3, END, 3, 4, ENDING, 4));
        checkDue("two bars behind", 203, roads(6, 1, ENDING, 1, 1, END, 2, 3, ENDING, 2));
        checkDue("between two ENDs, but not right behind", 203,
                roads(7, 1, ENDING, 1, 1, END, 3, 2, ENDING, 2, 3, ENDING, 4, 4, END, 3, 5, ENDING, 4));
        playedDue("behind the last END, in the last bar", "0 1 0 2", roads(3, 1, ENDING, 1, 1, END, 2, 2, ENDING, 2));
        checkDue("no bar right behind", 302, roads(3, 2, ENDING, 1, 2, END, 2));
    }

    private static void repeatsEndingsIfThereAreAny() {
        sentence("Terms, REPEATS", "if there are any of these");
        checkDue("none up to the first END", 202, roads(5, 1, END, 2, 2, ENDING, 1));
        checkDue("none up to the first END, and a second END", 202,
                roads(6, 1, END, 2, 2, ENDING, 1, 3, END, 2, 4, ENDING, 2));
        checkDue("one of an earlier repeat alone", 204, roads(6, 1, ENDING, 1, 1, END, 2, 2, ENDING, 2,
                2, START, 1, 3, END, 2, 4, ENDING, 3));
    }

    private static void repeatsEndingOfAnEarlierOne() {
        sentence("Terms, REPEATS", "a bar that is an ending of a repeat is none of a later one");
        playedDue("the earlier one's last ending in the first bar", "0 1 0 2 3 2 4 5", roads(6, 1, ENDING, 1,
                1, END, 2, 2, ENDING, 2, 2, START, 1, 3, ENDING, 1, 3, END, 2, 4, ENDING, 2));
        playedDue("a repeat in that bar alone", "0 1 0 2 2 2 3", roads(4, 1, ENDING, 1, 1, END, 2, 2, ENDING, 2,
                2, START, 1, 2, END, 3));
    }

    private static void checkingLeastFault() {
        sentence("Terms, CHECKING", "the least one counts");
        ScoreRoads x = roads(20, 0, JUMP, 3, 1, JUMP, 2, 4, SEGNO, 1, 5, SEGNO, 1, 6, START, 1, 6, ENDING, 1,
                6, END, 2, 7, ENDING, 1, 9, START, 1, 9, ENDING, 1, 9, END, 2, 12, ENDING, 1, 19, START, 1);
        checkDue("1 behind all others", 119, x);
        x.sign(19, START, 0);
        checkDue("2 behind 3", 212, x);
        x.sign(12, ENDING, 0);
        checkDue("3 behind 4", 309, x);
        x.sign(9, ENDING, 0);
        checkDue("4 behind 5", 406, x);
        x.sign(7, ENDING, 0);
        x.sign(7, ENDING, 2);
        checkDue("5 beside 6, behind 7", 501, x);
        x.sign(0, JUMP, 0);
        checkDue("5 behind 6", 505, x);
        x.sign(5, SEGNO, 0);
        checkDue("6 alone", 601, x);
        x.sign(1, JUMP, 0);
        x.sign(1, JUMP, 4);
        checkDue("6 before 7", 601, x);
        x.sign(1, SEGNO, 1);
        x.sign(4, SEGNO, 0);
        checkDue("7 alone", 701, x);
        x.sign(1, FINE, 1);
        checkDue("none", 0, x);
    }

    private static void checkingFirstBar() {
        sentence("Terms, CHECKING", "and of it the first bar");
        checkDue("1", 102, roads(20, 2, START, 1, 5, START, 1, 19, START, 1));
        checkDue("2, stray ones", 203, roads(20, 3, ENDING, 1, 19, ENDING, 1));
        checkDue("2, a later one up to the END before a stray one", 202,
                roads(20, 1, ENDING, 1, 2, ENDING, 1, 3, ENDING, 1, 4, END, 2, 5, ENDING, 2, 9, ENDING, 1));
        checkDue("2, a stray one before a later one up to the END", 200, roads(20, 0, ENDING, 1, 1, START, 1,
                2, ENDING, 1, 3, ENDING, 1, 4, END, 2, 5, ENDING, 2));
        checkDue("3", 301, roads(20, 1, ENDING, 1, 1, END, 2, 5, START, 1, 5, ENDING, 1, 5, END, 2));
        checkDue("4", 400, roads(20, 1, ENDING, 1, 1, END, 2, 2, ENDING, 1, 5, START, 1, 5, ENDING, 1, 5, END, 2,
                6, ENDING, 1));
        checkDue("5, the second of the one before the second of the other", 503,
                roads(20, 0, CODA, 1, 1, SEGNO, 1, 3, SEGNO, 1, 4, CODA, 1));
        checkDue("5, the second one of three", 503, roads(20, 0, JUMP, 1, 3, JUMP, 1, 19, JUMP, 1));
    }

    private static void fault1StartWithoutEnd() {
        sentence("Terms, CHECKING 1", "START, and no END in that bar or behind it");
        checkDue("a page of one bar", 100, roads(1, 0, START, 1));
        checkDue("a page of one bar, END in it", 0, roads(1, 0, START, 1, 0, END, 2));
        checkDue("bar 0 of 20", 100, roads(20, 0, START, 1));
        checkDue("bar 0 of 20, END in the last bar", 0, roads(20, 0, START, 1, 19, END, 2));
        checkDue("bar 19", 119, roads(20, 19, START, 1));
        checkDue("bar 19, END in it", 0, roads(20, 19, START, 1, 19, END, 2));
        checkDue("bar 19, END right before it", 119, roads(20, 19, START, 1, 18, END, 2));
        checkDue("bar 18, END right behind it", 0, roads(20, 18, START, 1, 19, END, 2));
    }

    private static void fault1BeforeTheNextStart() {
        sentence("Terms, CHECKING 1", "before the next START");
        checkDue("END right before the next START", 0, roads(5, 1, START, 1, 2, END, 2, 3, START, 1, 3, END, 2));
        checkDue("END in the first START's bar", 0, roads(5, 1, START, 1, 1, END, 2, 2, START, 1, 2, END, 2));
        checkDue("END in the next START's bar", 101, roads(5, 1, START, 1, 2, START, 1, 2, END, 2));
        checkDue("END behind the next START", 101, roads(5, 1, START, 1, 2, START, 1, 3, END, 2));
        checkDue("the last START lacks it", 103, roads(5, 1, START, 1, 2, END, 2, 3, START, 1));
    }

    private static void fault2NoEndingOfARepeat() {
        sentence("Terms, CHECKING 2", "ENDING that is not one of the endings of a repeat");
        checkDue("a page of one bar", 200, roads(1, 0, ENDING, 1));
        checkDue("bar 0 of 20", 200, roads(20, 0, ENDING, 15));
        checkDue("bar 19", 219, roads(20, 19, ENDING, 1));
        checkDue("behind an END without one", 219, roads(20, 18, END, 2, 19, ENDING, 2));
        checkDue("behind an END with one", 0, roads(20, 18, END, 2, 18, ENDING, 1, 19, ENDING, 2));
    }

    private static void fault2SecondUpToTheFirstEnd() {
        sentence("Terms, CHECKING 2", "or the second or a later one up to the first END of its repeat");
        checkDue("the second in the bar of the first END", 201,
                roads(5, 0, ENDING, 1, 1, ENDING, 2, 1, END, 2, 2, ENDING, 2));
        checkDue("the second before the first END", 201,
                roads(5, 0, ENDING, 1, 1, ENDING, 2, 2, END, 3, 3, ENDING, 4));
        checkDue("the second behind the first END", 0, roads(5, 0, ENDING, 1, 1, END, 2, 2, ENDING, 2));
        checkDue("the third, the second being mended", 202,
                roads(5, 0, ENDING, 1, 2, ENDING, 2, 3, END, 3, 4, ENDING, 4));
        checkDue("the first in the first bar, the last in bar 19", 0,
                roads(20, 0, ENDING, 1, 18, END, 2, 19, ENDING, 2));
    }

    private static void fault3AnotherCount() {
        sentence("Terms, CHECKING 3", "END of a repeat with endings that has another count than its repeat");
        for (int first = 2; first <= 4; first++) {
            for (int second = 2; second <= 4; second++) {
                ScoreRoads x = roads(4, 0, ENDING, 1, 0, END, first, 1, ENDING, first == 4 ? 6 : 2, 1, END, second,
                        2, ENDING, 1 << (first - 1));
                checkDue(first + " and " + second, first != second ? 301 : first == 2 ? 400 : 0, x);
            }
        }
        checkDue("a repeat without endings", 0, roads(4, 0, END, 2, 1, END, 3, 2, END, 4));
        checkDue("the third END", 302, roads(5, 0, ENDING, 1, 0, END, 4, 1, ENDING, 2, 1, END, 4, 2, ENDING, 4,
                2, END, 3, 3, ENDING, 8));
    }

    private static void fault3NoEndingBehind() {
        sentence("Terms, CHECKING 3", "or behind which there is no ENDING of it");
        checkDue("a page of one bar", 300, roads(1, 0, ENDING, 3, 0, END, 2));
        checkDue("bar 0 of 20", 300, roads(20, 0, ENDING, 3, 0, END, 2));
        checkDue("bar 19", 319, roads(20, 19, ENDING, 3, 19, END, 2));
        checkDue("bar 18, ENDING in the last bar", 0, roads(20, 18, ENDING, 1, 18, END, 2, 19, ENDING, 2));
        checkDue("the second END lacks it", 319,
                roads(20, 18, ENDING, 1, 18, END, 3, 19, ENDING, 2, 19, END, 3));
        checkDue("the ENDING behind is of a new repeat", 301, roads(6, 1, ENDING, 3, 1, END, 2,
                3, START, 1, 3, ENDING, 1, 3, END, 2, 4, ENDING, 2));
        checkDue("a repeat without endings", 0, roads(20, 19, END, 2));
    }

    private static void fault4EachPassInJustOne() {
        sentence("Terms, CHECKING 4", "if not each pass from 1 to its count is in just one of them");
        for (int count = 2; count <= 4; count++) {
            int last = 1 << (count - 1);
            for (int passes = 1; passes <= 15; passes++) {
                checkDue("count " + count + " passes " + passes + " and the last one",
                        passes == last - 1 ? 0 : 400, twoEndings(count, passes, last));
                checkDue("count " + count + " pass 1 and passes " + passes,
                        passes == 2 * last - 2 ? 0 : 400, twoEndings(count, 1, passes));
            }
        }
        checkDue("twice in the first and the third", 400, roads(4, 0, ENDING, 3, 0, END, 3, 1, ENDING, 2,
                1, END, 3, 2, ENDING, 4));
    }

    private static void fault4NoOtherPass() {
        sentence("Terms, CHECKING 4", "and no other one in any");
        checkDue("pass 3 of 2 in the first", 400, twoEndings(2, 5, 2));
        checkDue("pass 3 of 2 in the last", 400, twoEndings(2, 1, 6));
        checkDue("pass 4 of 2", 400, twoEndings(2, 9, 2));
        checkDue("pass 4 of 3", 400, twoEndings(3, 3, 12));
        checkDue("pass 4 of 4", 0, twoEndings(4, 3, 12));
    }

    private static void fault4LastEndingHasTheLastPass() {
        sentence("Terms, CHECKING 4", "or the last ending has not the last pass");
        checkDue("the first has it", 400, twoEndings(2, 2, 1));
        checkDue("the last has it", 0, twoEndings(2, 1, 2));
        checkDue("the second of three has it", 400, roads(4, 0, ENDING, 1, 0, END, 3, 1, ENDING, 4, 1, END, 3,
                2, ENDING, 2));
        checkDue("the last of three has it, the others the wrong way round", 0, roads(4, 0, ENDING, 2, 0, END, 3,
                1, ENDING, 1, 1, END, 3, 2, ENDING, 4));
        checkDue("the first of two has it with another one", 400, twoEndings(4, 9, 6));
    }

    private static ScoreRoads twoEndings(int count, int first, int second) {
        return roads(2, 0, ENDING, first, 0, END, count, 1, ENDING, second);
    }

    private static void fault4FirstBar() {
        sentence("Terms, CHECKING 4", "The first bar of a repeat with endings");
        checkDue("bar 0", 400, roads(20, 17, ENDING, 1, 18, END, 2, 19, ENDING, 1));
        checkDue("bar 18", 418, roads(20, 18, START, 1, 18, ENDING, 1, 18, END, 2, 19, ENDING, 1));
        checkDue("right behind the END before", 402, roads(20, 1, END, 2, 18, ENDING, 1, 18, END, 2, 19, ENDING, 1));
        checkDue("no endings", 0, roads(20, 18, START, 1, 18, END, 2));
    }

    private static void fault5ASecondOne() {
        sentence("Terms, CHECKING 5", "A second SEGNO, CODA or JUMP");
        int[] kinds = {SEGNO, CODA, JUMP};
        for (int kind : kinds) {
            checkDue("one of kind " + kind, 0, roads(20, 19, kind, 1));
            checkDue("one of kind " + kind, 0, roads(1, 0, kind, 1));
            checkDue("neighbours of kind " + kind, 501, roads(20, 0, kind, 1, 1, kind, 1));
            checkDue("first and last bar of kind " + kind, 519, roads(20, 0, kind, 1, 19, kind, 1));
        }
        int[] others = {FINE, OVER, LETTER, DOUBLE};
        for (int kind : others) {
            checkDue("two of kind " + kind, 0, roads(20, 0, kind, 1, 19, kind, 1));
        }
        checkDue("one of each", 0, roads(2, 0, SEGNO, 1, 0, JUMP, 1, 1, CODA, 1));
    }

    private static void fault6NoSegnoUpToTheJump() {
        sentence("Terms, CHECKING 6", "JUMP to the segno, which there is not in that bar or before it");
        for (int value = 1; value <= 12; value++) {
            boolean toSegno = value % 2 == 0;
            ScoreRoads x = roads(20, 5, JUMP, value, 5, FINE, 1, 5, OVER, 1, 6, CODA, 1);
            checkDue("value " + value + ", none", toSegno ? 605 : 0, x);
            x.sign(6, SEGNO, 1);
            checkDue("value " + value + ", right behind", toSegno ? 605 : 0, x);
            x.sign(6, SEGNO, 0);
            x.sign(5, SEGNO, 1);
            checkDue("value " + value + ", in that bar", 0, x);
            x.sign(5, SEGNO, 0);
            x.sign(4, SEGNO, 1);
            checkDue("value " + value + ", right before", 0, x);
        }
        checkDue("bar 0", 600, roads(1, 0, JUMP, 2));
        checkDue("bar 0, in it", 0, roads(1, 0, JUMP, 2, 0, SEGNO, 1));
        checkDue("bar 19", 619, roads(20, 19, JUMP, 2));
        checkDue("bar 19, in bar 0", 0, roads(20, 19, JUMP, 2, 0, SEGNO, 1));
    }

    private static void fault7NoFine() {
        sentence("Terms, CHECKING 7", "JUMP to the fine, if there is no FINE from where it goes to up to its own bar");
        checkDue("a page of one bar", 700, roads(1, 0, JUMP, 3));
        checkDue("a page of one bar, FINE in it", 0, roads(1, 0, JUMP, 3, 0, FINE, 1));
        checkDue("bar 19", 719, roads(20, 19, JUMP, 9));
        checkDue("from bar 0, FINE in bar 0", 0, roads(20, 19, JUMP, 9, 0, FINE, 1));
        checkDue("FINE in its own bar", 0, roads(20, 18, JUMP, 9, 18, FINE, 1));
        checkDue("FINE right behind", 718, roads(20, 18, JUMP, 9, 19, FINE, 1));
        checkDue("from the segno, FINE there", 0, roads(20, 18, JUMP, 10, 7, SEGNO, 1, 7, FINE, 1));
        checkDue("from the segno, FINE right before", 718, roads(20, 18, JUMP, 10, 7, SEGNO, 1, 6, FINE, 1));
        checkDue("from the segno in its own bar, FINE there", 0, roads(9, 7, JUMP, 4, 7, SEGNO, 1, 7, FINE, 1));
        checkDue("from the segno in its own bar, FINE right before", 707,
                roads(9, 7, JUMP, 4, 7, SEGNO, 1, 6, FINE, 1));
        checkDue("not to the fine", 0, roads(9, 7, JUMP, 1));
    }

    private static void fault7NoOver() {
        sentence("Terms, CHECKING 7", "JUMP over to the coda, if there is no OVER there");
        checkDue("none", 705, roads(9, 5, JUMP, 5, 8, CODA, 1));
        checkDue("in bar 0", 0, roads(9, 5, JUMP, 5, 8, CODA, 1, 0, OVER, 1));
        checkDue("in its own bar", 0, roads(9, 5, JUMP, 11, 8, CODA, 1, 5, OVER, 1));
        checkDue("right behind", 705, roads(9, 5, JUMP, 5, 8, CODA, 1, 6, OVER, 1));
        checkDue("at the segno", 0, roads(9, 5, JUMP, 6, 3, SEGNO, 1, 8, CODA, 1, 3, OVER, 1));
        checkDue("right before the segno", 705, roads(9, 5, JUMP, 12, 3, SEGNO, 1, 8, CODA, 1, 2, OVER, 1));
        checkDue("FINE is no OVER", 705, roads(9, 5, JUMP, 5, 8, CODA, 1, 2, FINE, 1));
        checkDue("OVER is no FINE", 705, roads(9, 5, JUMP, 3, 8, CODA, 1, 2, OVER, 1));
    }

    private static void fault7NoCodaBehind() {
        sentence("Terms, CHECKING 7", "or no CODA behind the jump's bar");
        checkDue("none", 705, roads(9, 5, JUMP, 5, 2, OVER, 1));
        checkDue("in the jump's bar", 705, roads(9, 5, JUMP, 5, 2, OVER, 1, 5, CODA, 1));
        checkDue("right behind", 0, roads(9, 5, JUMP, 5, 2, OVER, 1, 6, CODA, 1));
        checkDue("before", 705, roads(9, 5, JUMP, 5, 2, OVER, 1, 4, CODA, 1));
        checkDue("in the last bar", 0, roads(20, 0, JUMP, 5, 0, OVER, 1, 19, CODA, 1));
        checkDue("no bar behind", 719, roads(20, 19, JUMP, 5, 0, OVER, 1, 19, CODA, 1));
        checkDue("a page of one bar", 700, roads(1, 0, JUMP, 5, 0, OVER, 1, 0, CODA, 1));
    }

    private static void playingFromBar0ToTheLastBar() {
        sentence("Terms, PLAYING", "from bar 0 on; it is the last bar: that is the end");
        playedDue("a page of one bar", "0", roads(1));
        playedDue("a page of 20 bars", "0 1 2 3 4 5 6 7 8 9 10 11 12 13 14 15 16 17 18 19", roads(20));
        playedDue("END in the last bar comes first", "0 1 0 1", roads(2, 1, END, 2));
        playedDue("JUMP in the last bar comes first", "0 1 0 1", roads(2, 1, JUMP, 1));
        playedDue("CODA in the last bar", "0 1 0 2", roads(3, 1, JUMP, 5, 0, OVER, 1, 2, CODA, 1));
    }

    private static void playingTakenBehindAJump() {
        sentence("Terms, PLAYING", "a repeat is TAKEN before, and behind a jump if that says so");
        for (int value = 1; value <= 12; value++) {
            ScoreRoads x = roads(5, 1, SEGNO, 1, 2, START, 1, 2, END, 3, 3, FINE, 1, 3, OVER, 1, 3, JUMP, value,
                    4, CODA, 1);
            due("bar 2, value " + value, x.plays() > 0 && x.find(2, value > 6 ? 6 : 4) > 0, true);
            due("bar 2, value " + value, x.find(2, value > 6 ? 7 : 5), NONE);
        }
    }

    private static void playingNextEndingLikewise() {
        sentence("Terms, PLAYING",
                "it has not the repeat's pass: the next ending of the repeat comes instead (likewise)");
        playedDue("over one, two and three", "0 1 0 2 0 3 0 4 5", roads(6, 1, ENDING, 1, 1, END, 4, 2, ENDING, 2,
                2, END, 4, 3, ENDING, 4, 3, END, 4, 4, ENDING, 8));
        playedDue("not from the first ending on", "0 2 0 1 0 3", roads(4, 1, ENDING, 2, 1, END, 3, 2, ENDING, 1,
                2, END, 3, 3, ENDING, 4));
        playedDue("the first one is never played", "0 2 3", roads(4, 1, ENDING, 2, 1, END, 3, 2, ENDING, 5));
        playedDue("bars of an ending are left out with it", "0 1 2 3 0 4 5", roads(6, 1, ENDING, 1, 3, END, 2,
                4, ENDING, 2));
    }

    private static void playingNoNextEnding() {
        sentence("Terms, PLAYING", "the next ending of the repeat, if there is one");
        playedDue("to the last ending in pass 1", "0 1 0 2 3 2 3",
                roads(4, 1, ENDING, 1, 1, END, 2, 2, ENDING, 2, 2, SEGNO, 1, 3, JUMP, 8));
        playedDue("to the second of three in pass 1", "0 1 0 2 0 3 4 3 4", roads(5, 1, ENDING, 1, 1, END, 3,
                2, ENDING, 2, 2, END, 3, 2, SEGNO, 1, 3, ENDING, 4, 4, JUMP, 8));
        playedDue("the next repeat's ending is none", "0 1 0 2 3 2 4 5 2 3 2 4 5", roads(6, 1, ENDING, 1, 1, END, 2,
                2, ENDING, 2, 2, SEGNO, 1, 2, START, 1, 3, ENDING, 1, 3, END, 2, 4, ENDING, 2, 5, JUMP, 8));
    }

    private static void playingEndingNotTaken() {
        sentence("Terms, PLAYING", "or it is not taken, and it has not the last pass");
        playedDue("two endings", "0 1 0 2 3 0 2 3", roads(4, 1, ENDING, 1, 1, END, 2, 2, ENDING, 2, 3, JUMP, 1));
        playedDue("three endings", "0 1 0 2 0 3 4 0 3 4", roads(5, 1, ENDING, 1, 1, END, 3, 2, ENDING, 2, 2, END, 3,
                3, ENDING, 4, 4, JUMP, 1));
        playedDue("taken", "0 1 0 2 3 0 1 0 2 3", roads(4, 1, ENDING, 1, 1, END, 2, 2, ENDING, 2, 3, JUMP, 7));
        playedDue("into an ending, behind its first bar", "0 1 2 0 3 4 2 3 4",
                roads(5, 1, ENDING, 1, 2, END, 2, 2, SEGNO, 1, 3, ENDING, 2, 4, JUMP, 2));
    }

    /** Bars 0 and 1 bring the jump without an OVER that is followed; so the coda leads back without new passes. */
    private static ScoreRoads backByTheCoda(int bars, int... signs) {
        ScoreRoads x = roads(bars, 0, ENDING, 1, 0, END, 2, 0, OVER, 1, 1, ENDING, 2, 1, JUMP, 11, 2, CODA, 1);
        for (int s = 0; s + 2 < signs.length; s += 3) {
            x.sign(signs[s], signs[s + 1], signs[s + 2]);
        }
        return x;
    }

    private static void playingPassIs1BehindTheLastPass() {
        sentence("Terms, PLAYING", "if it has the last pass, the repeat's pass is 1 again");
        playedDue("back by the coda", "0 1 0 1 2 3 2 4 5 2 3 2 4 5 6",
                backByTheCoda(7, 2, START, 1, 3, ENDING, 1, 3, END, 2, 4, ENDING, 2, 5, OVER, 1));
    }

    private static void playingPassBelowTheCount() {
        sentence("Terms, PLAYING", "the pass is below its count: the pass is one more, the repeat's first bar comes");
        playedDue("count 2", "0 1 1 2", roads(3, 1, START, 1, 1, END, 2));
        playedDue("count 3", "0 1 1 1 2", roads(3, 1, START, 1, 1, END, 3));
        playedDue("count 4", "0 1 1 1 1 2", roads(3, 1, START, 1, 1, END, 4));
        playedDue("not taken", "0 1 1 1 2 0 1 2", roads(3, 1, START, 1, 1, END, 3, 2, JUMP, 1));
    }

    private static void playingPassIs1AtTheCount() {
        sentence("Terms, PLAYING", "If the pass is the count, it is 1 again");
        playedDue("back by the coda", "0 1 0 1 2 3 2 3 4 2 3 2 3 4 5",
                backByTheCoda(6, 2, START, 1, 3, END, 2, 4, OVER, 1));
    }

    private static void playingFine() {
        sentence("Terms, PLAYING", "Behind a jump to the fine it has FINE: that is the end");
        playedDue("a page of one bar", "0 0", roads(1, 0, FINE, 1, 0, JUMP, 3));
        playedDue("where the jump goes to", "0 1 2 0", roads(4, 0, FINE, 1, 2, JUMP, 3));
        playedDue("in the jump's bar", "0 1 2 0 1 2", roads(4, 2, FINE, 1, 2, JUMP, 3));
        playedDue("the first of two", "0 1 2 0 1", roads(4, 1, FINE, 1, 2, FINE, 1, 2, JUMP, 3));
        playedDue("not behind a jump to the end", "0 1 2 0 1 2 3", roads(4, 1, FINE, 1, 2, JUMP, 1));
        playedDue("not behind a jump over to the coda", "0 1 2 0 1 2 4", roads(5, 1, FINE, 1, 2, OVER, 1, 2, JUMP, 5,
                4, CODA, 1));
        playedDue("not without a jump", "0 1 2", roads(3, 0, FINE, 1));
    }

    private static void playingFineToComeAgain() {
        sentence("Terms, PLAYING", "FINE, unless it is to come again");
        String[] behind = {"0", "0 1 2 1", "0 1 2 1 2", "0 1 2 1 2 3"};
        String[] notTaken = {"0", "0 1", "0 1 2", "0 1 2 3"};
        for (int b = 0; b <= 3; b++) {
            playedDue("in bar " + b, "0 1 2 1 2 3 4 " + behind[b],
                    roads(6, 1, START, 1, 2, END, 2, 4, JUMP, 9, b, FINE, 1));
            playedDue("in bar " + b + ", not taken", "0 1 2 1 2 3 4 " + notTaken[b],
                    roads(6, 1, START, 1, 2, END, 2, 4, JUMP, 3, b, FINE, 1));
        }
        playedDue("in the fourth pass", "0 0 0 0 1 0 0 0 0", roads(3, 0, END, 4, 1, JUMP, 9, 0, FINE, 1));
    }

    private static void playingOver() {
        sentence("Terms, PLAYING", "Behind a jump over to the coda it has OVER: the bar with CODA comes");
        playedDue("where the jump goes to", "0 1 2 0 3", roads(4, 0, OVER, 1, 2, JUMP, 5, 3, CODA, 1));
        playedDue("in the jump's bar", "0 1 2 0 1 2 4", roads(5, 2, OVER, 1, 2, JUMP, 5, 4, CODA, 1));
        playedDue("the first of two", "0 1 2 0 4", roads(5, 0, OVER, 1, 2, OVER, 1, 2, JUMP, 5, 4, CODA, 1));
        playedDue("bar 0 to bar 1", "0 0 1", roads(2, 0, OVER, 1, 0, JUMP, 5, 1, CODA, 1));
        playedDue("not behind a jump to the end", "0 1 0 1 2", roads(3, 0, OVER, 1, 1, JUMP, 1, 2, CODA, 1));
        playedDue("not behind a jump to the fine", "0 1 0 1",
                roads(3, 0, OVER, 1, 1, JUMP, 3, 1, FINE, 1, 2, CODA, 1));
    }

    private static void playingOverDoesNothingMore() {
        sentence("Terms, PLAYING", "and OVER does nothing more");
        playedDue("in the bar with CODA", "0 1 0 3 4", roads(5, 0, OVER, 1, 1, JUMP, 5, 3, CODA, 1, 3, OVER, 1));
        playedDue("in the last bar", "0 1 0 3 4", roads(5, 0, OVER, 1, 1, JUMP, 5, 3, CODA, 1, 4, OVER, 1));
        playedDue("FINE does nothing there either", "0 1 0 3 4",
                roads(5, 0, OVER, 1, 1, JUMP, 5, 3, CODA, 1, 3, FINE, 1));
        playedDue("JUMP is made but once", "0 1 0 1 3 4", roads(5, 1, OVER, 1, 1, JUMP, 5, 3, CODA, 1));
    }

    private static void playingOverToComeAgain() {
        sentence("Terms, PLAYING", "OVER, unless it is to come again");
        String[] behind = {"0", "0 1 2 1", "0 1 2 1 2", "0 1 2 1 2 3"};
        String[] notTaken = {"0", "0 1", "0 1 2", "0 1 2 3"};
        for (int b = 0; b <= 3; b++) {
            playedDue("in bar " + b, "0 1 2 1 2 3 4 " + behind[b] + " 6",
                    roads(7, 1, START, 1, 2, END, 2, 4, JUMP, 11, b, OVER, 1, 6, CODA, 1));
            playedDue("in bar " + b + ", not taken", "0 1 2 1 2 3 4 " + notTaken[b] + " 6",
                    roads(7, 1, START, 1, 2, END, 2, 4, JUMP, 5, b, OVER, 1, 6, CODA, 1));
        }
    }

    private static void playingJumpOnce() {
        sentence("Terms, PLAYING", "It has JUMP, before: the bar where it goes to comes");
        playedDue("a page of one bar", "0 0", roads(1, 0, JUMP, 1));
        playedDue("a page of one bar, to the segno", "0 0", roads(1, 0, JUMP, 2, 0, SEGNO, 1));
        playedDue("in bar 0", "0 0 1", roads(2, 0, JUMP, 1));
        playedDue("in the last bar", "0 1 2 0 1 2", roads(3, 2, JUMP, 1));
        playedDue("to the segno right before", "0 1 2 1 2 3", roads(4, 1, SEGNO, 1, 2, JUMP, 2));
        playedDue("to the segno in its own bar", "0 1 2 2 3", roads(4, 2, SEGNO, 1, 2, JUMP, 2));
        playedDue("to the first bar in spite of a segno", "0 1 2 0 1 2 3", roads(4, 1, SEGNO, 1, 2, JUMP, 1));
        due("over all 20 bars", roads(20, 19, JUMP, 1).plays(), 40);
    }

    private static void playingJumpToComeAgain() {
        sentence("Terms, PLAYING", "JUMP, unless it is to come again");
        playedDue("right before the repeat", "0 0 1 2 1 2 3", roads(4, 1, START, 1, 2, END, 2, 0, JUMP, 7));
        playedDue("in its first bar", "0 1 2 1 0 1 2 3", roads(4, 1, START, 1, 2, END, 2, 1, JUMP, 1));
        playedDue("in the bar of its END", "0 1 2 1 2 0 1 2 3", roads(4, 1, START, 1, 2, END, 2, 2, JUMP, 1));
        playedDue("right behind it", "0 1 2 1 2 3 0 1 2 3", roads(4, 1, START, 1, 2, END, 2, 3, JUMP, 1));
        playedDue("in the fourth pass", "0 0 0 0 0 1", roads(2, 0, END, 4, 0, JUMP, 1));
        playedDue("in an ending that is always to come again", "0 1 0 2 3",
                roads(4, 1, ENDING, 1, 1, END, 2, 1, JUMP, 1, 2, ENDING, 2));
        playedDue("in the last ending", "0 1 0 2 0 2 3",
                roads(4, 1, ENDING, 1, 1, END, 2, 2, JUMP, 1, 2, ENDING, 2));
    }

    private static void playingJumpMakesAllPasses1() {
        sentence("Terms, PLAYING", "all passes are 1");
        playedDue("from the middle of a repeat in its last pass", "0 1 0 0 1 0 1 2", roads(3, 0, JUMP, 7, 1, END, 2));
        playedDue("to its own bar there", "0 1 0 0 1 0 1 2 3", roads(4, 0, SEGNO, 1, 0, JUMP, 8, 1, END, 2));
        playedDue("to the bar of its END", "0 1 0 1 1 0 1 2 3", roads(4, 1, SEGNO, 1, 1, JUMP, 8, 1, END, 2));
        playedDue("with endings", "0 1 2 0 0 1 2 0 3", roads(4, 0, JUMP, 7, 1, ENDING, 1, 2, END, 2, 3, ENDING, 2));
    }

    private static void toComeAgainUpToTheLastEnd() {
        sentence("Terms, PLAYING", "one from the first bar of a taken repeat to its last END");
        String before = "0 1 2 1 3 1 4 5 ";
        String again = "0 1 2 1 3 1 4";
        String[] behind = {"0", "0 1 2 1 3 1", again + " 5 6", again + " 5 6", again, again + " 5"};
        for (int b = 0; b <= 5; b++) {
            playedDue("FINE in bar " + b, before + behind[b], roads(7, 1, START, 1, 2, ENDING, 1, 2, END, 3,
                    3, ENDING, 2, 3, END, 3, 4, ENDING, 4, 5, JUMP, 9, b, FINE, 1));
        }
    }

    private static void toComeAgainAsItWasWhenTheBarCame() {
        sentence("Terms, PLAYING", "that repeat's pass (as it was when the bar came) is below its count");
        playedDue("END makes the pass 1 again, FINE holds all the same", "0 0 1 0 0",
                roads(3, 0, END, 2, 0, FINE, 1, 1, JUMP, 9));
        playedDue("so does OVER", "0 0 1 0 0 2", roads(3, 0, END, 2, 0, OVER, 1, 1, JUMP, 11, 2, CODA, 1));
        playedDue("so does JUMP", "0 0 0 1", roads(2, 0, END, 2, 0, JUMP, 1));
    }

    private static void checkIs0() {
        sentence("Promise 7", "0 when there is no fault");
        for (int bars = 1; bars <= 20; bars++) {
            checkDue("no signs on " + bars, 0, new ScoreRoads(bars));
        }
        checkDue("END in each of 20 bars", 0, endInEachOf20());
        ScoreRoads x = roads(1, 0, START, 1);
        checkDue("a fault", 100, x);
        x.sign(0, END, 2);
        checkDue("mended by a sign more", 0, x);
        x.sign(0, END, 0);
        checkDue("a fault again", 100, x);
        x.sign(0, START, 0);
        checkDue("mended by a sign less", 0, x);
    }

    private static void checkIsFaultAndBar() {
        sentence("Promise 7", "otherwise 100 times the fault, and the bar");
        for (int b = 0; b < 20; b++) {
            checkDue("1", 100 + b, roads(20, b, START, 1));
            checkDue("2", 200 + b, roads(20, b, ENDING, 1));
            checkDue("3", 300 + b, roads(20, b, ENDING, 1, b, END, 2));
            checkDue("6", 600 + b, roads(20, b, JUMP, 2));
            checkDue("7", 700 + b, roads(20, b, JUMP, 3));
        }
        for (int b = 0; b < 19; b++) {
            checkDue("4", 400 + b, roads(20, b, START, 1, b, ENDING, 1, b, END, 2, b + 1, ENDING, 1));
            checkDue("5", 501 + b, roads(20, b, SEGNO, 1, b + 1, SEGNO, 1));
        }
    }

    private static void plays() {
        sentence("Promise 8", "How many bars are played");
        for (int bars = 1; bars <= 20; bars++) {
            due("bars " + bars, new ScoreRoads(bars).plays(), bars);
            due("bars " + bars + " four times", roads(bars, bars - 1, END, 4).plays(), 4 * bars);
            due("bars " + bars + " eight times", roads(bars, bars - 1, END, 4, bars - 1, JUMP, 7).plays(), 8 * bars);
        }
        due("one of one", roads(1, 0, JUMP, 1).plays(), 2);
        due("three ways", threeWays().plays(), 202);
    }

    private static void playsNoneWithAFault() {
        sentence("Promise 8", "NONE when there is a fault");
        int[][] faults = {{0, START, 1}, {0, ENDING, 1}, {0, ENDING, 3, 0, END, 2},
            {0, ENDING, 3, 0, END, 2, 1, ENDING, 2}, {0, CODA, 1, 1, CODA, 1}, {0, JUMP, 2}, {0, JUMP, 3}};
        for (int f = 0; f < faults.length; f++) {
            ScoreRoads x = roads(2, faults[f]);
            due("fault " + (f + 1), x.check() / 100, f + 1);
            due("fault " + (f + 1), x.plays(), NONE);
            throwsDue("played, fault " + (f + 1), STATE, () -> x.played(0));
            throwsDue("time, fault " + (f + 1), STATE, () -> x.time(0));
            throwsDue("find, fault " + (f + 1), STATE, () -> x.find(0, 1));
            throwsDue("tick, fault " + (f + 1), STATE, () -> x.tick(0));
            throwsDue("at, fault " + (f + 1), STATE, () -> x.at(0));
            throwsDue("sounds, fault " + (f + 1), STATE, () -> x.sounds(0));
            throwsDue("sound, fault " + (f + 1), STATE, () -> x.sound(0, 0, 0));
            due("rest, in spite of fault " + (f + 1), x.rest(0, 0) > 0, true);
        }
    }

    private static void played() {
        sentence("Promise 9", "The bar that is played as the i-th one, from 0");
        due("a page of one bar", new ScoreRoads(1).played(0), 0);
        due("the first of 20", new ScoreRoads(20).played(0), 0);
        due("the last of 20", new ScoreRoads(20).played(19), 19);
        due("the last of 202", threeWays().played(201), 19);
        due("the first of 202", threeWays().played(0), 0);
    }

    private static void playedNotSoMany() {
        sentence("Promise 9", "IndexOutOfBoundsException when there are not so many");
        ScoreRoads[] pages = {new ScoreRoads(1), new ScoreRoads(20), new ScoreRoads(0), roads(1, 0, END, 4),
            threeWays()};
        int[] numbers = {1, 20, 12, 4, 202};
        for (int p = 0; p < pages.length; p++) {
            ScoreRoads x = pages[p];
            int number = numbers[p];
            due("the last one", x.played(number - 1) >= 0, true);
            throwsDue("one more than " + number, INDEX, () -> x.played(number));
            throwsDue("two more than " + number, INDEX, () -> x.played(number + 1));
            throwsDue("-1", INDEX, () -> x.played(-1));
            for (int i : FAR) {
                throwsDue("far: " + i, INDEX, () -> x.played(i));
            }
        }
    }

    private static void time() {
        sentence("Promise 10", "The how-manieth time it is that it is played, from 1");
        due("a page of one bar", new ScoreRoads(1).time(0), 1);
        due("the last of 20", new ScoreRoads(20).time(19), 1);
        ScoreRoads x = roads(1, 0, END, 4, 0, JUMP, 7);
        for (int i = 0; i < 8; i++) {
            due("time of " + i, x.time(i), i + 1);
        }
        due("the eleventh", threeWays().time(201), 11);
    }

    private static void timeNotSoMany() {
        sentence("Promise 10", "Exceptions likewise");
        ScoreRoads[] pages = {new ScoreRoads(1), new ScoreRoads(20), new ScoreRoads(0), threeWays()};
        int[] numbers = {1, 20, 12, 202};
        for (int p = 0; p < pages.length; p++) {
            ScoreRoads x = pages[p];
            int number = numbers[p];
            due("the last one", x.time(number - 1) >= 1, true);
            throwsDue("one more than " + number, INDEX, () -> x.time(number));
            throwsDue("-1", INDEX, () -> x.time(-1));
            for (int i : FAR) {
                throwsDue("far: " + i, INDEX, () -> x.time(i));
            }
        }
        ScoreRoads y = roads(2, 1, START, 1);
        throwsDue("a fault", STATE, () -> y.time(0));
        throwsDue("a fault, and not so many", STATE, () -> y.time(2));
        throwsDue("a fault, and far", STATE, () -> y.time(LOWEST));
    }

    private static void find() {
        sentence("Promise 11", "The i for which bar b is played for the k-th time, from 1");
        due("a page of one bar", new ScoreRoads(1).find(0, 1), 0);
        due("the last of 20", new ScoreRoads(20).find(19, 1), 19);
        ScoreRoads x = roads(1, 0, END, 4, 0, JUMP, 7);
        for (int k = 1; k <= 8; k++) {
            due("time " + k, x.find(0, k), k - 1);
        }
        due("the last one of 202", threeWays().find(19, 11), 201);
    }

    private static void findNone() {
        sentence("Promise 11", "NONE when there is none");
        ScoreRoads[] pages = {new ScoreRoads(1), new ScoreRoads(20), new ScoreRoads(21), roads(20, 19, END, 4)};
        int[] bars = {1, 20, 12, 20};
        int[] times = {1, 1, 1, 4};
        for (int p = 0; p < pages.length; p++) {
            ScoreRoads x = pages[p];
            due("the last time", x.find(bars[p] - 1, times[p]), bars[p] * times[p] - 1);
            due("once more", x.find(bars[p] - 1, times[p] + 1), NONE);
            due("the 0th time", x.find(0, 0), NONE);
            due("the -1st time", x.find(0, -1), NONE);
            due("bar -1", x.find(-1, 1), NONE);
            due("bar behind the last one", x.find(bars[p], 1), NONE);
            for (int far : FAR) {
                due("bar " + far, x.find(far, 1), NONE);
                due("time " + far, x.find(0, far), NONE);
                due("both " + far, x.find(far, far), NONE);
            }
        }
        due("a bar that is never played", roads(4, 1, ENDING, 2, 1, END, 3, 2, ENDING, 5).find(1, 1), NONE);
        due("bar -1, the 0th time", new ScoreRoads(20).find(-1, 0), NONE);
        ScoreRoads y = roads(1, 0, START, 1);
        throwsDue("a fault", STATE, () -> y.find(0, 1));
        throwsDue("a fault, and no such bar", STATE, () -> y.find(HIGHEST, LOWEST));
    }

    private static void tick() {
        sentence("Promise 12", "The ticks from the beginning to the i-th played bar");
        due("a page of one bar", new ScoreRoads(1).tick(0), 0);
        ScoreRoads x = roads(3, 1, END, 2);
        x.bar(0, 1, 1);
        x.bar(1, 32, 1000);
        x.bar(2, 1, 1000);
        long[] ticks = {0, 1, 32001, 32002, 64002};
        for (int i = 0; i < ticks.length; i++) {
            due("tick " + i, x.tick(i), ticks[i]);
        }
    }

    private static void tickOfAll() {
        sentence("Promise 12", "for i that is their number: of all");
        for (int bars = 1; bars <= 20; bars++) {
            due("bars " + bars, new ScoreRoads(bars).tick(bars), 160L * bars);
        }
        ScoreRoads shortest = new ScoreRoads(1);
        shortest.bar(0, 1, 1);
        due("the shortest", shortest.tick(1), 1);
        ScoreRoads longest = threeWays();
        for (int b = 0; b < 20; b++) {
            longest.bar(b, 32, 1000);
        }
        due("the longest", longest.tick(202), 202 * 32000L);
        due("the longest but for the last bar", longest.tick(201), 201 * 32000L);
    }

    private static void tickNotSoMany() {
        sentence("Promise 12", "Exceptions as for played, but for that");
        ScoreRoads[] pages = {new ScoreRoads(1), new ScoreRoads(20), new ScoreRoads(0), threeWays()};
        int[] numbers = {1, 20, 12, 202};
        for (int p = 0; p < pages.length; p++) {
            ScoreRoads x = pages[p];
            int number = numbers[p];
            due("their number", x.tick(number), 160L * number);
            throwsDue("one more than " + number, INDEX, () -> x.tick(number + 1));
            throwsDue("-1", INDEX, () -> x.tick(-1));
            for (int i : FAR) {
                throwsDue("far: " + i, INDEX, () -> x.tick(i));
            }
        }
        ScoreRoads y = roads(2, 1, START, 1);
        throwsDue("a fault", STATE, () -> y.tick(0));
        throwsDue("a fault, and their number", STATE, () -> y.tick(2));
        throwsDue("a fault, and not so many", STATE, () -> y.tick(3));
        throwsDue("a fault, and far", STATE, () -> y.tick(HIGHEST));
    }

    private static void at() {
        sentence("Promise 13", "Which of the played bars sounds at a tick");
        ScoreRoads x = roads(4, 1, END, 2);
        x.bar(0, 1, 1);
        x.bar(1, 32, 1000);
        x.bar(2, 2, 1);
        for (int i = 0; i < x.plays(); i++) {
            due("first tick of " + i, x.at(x.tick(i)), i);
            due("last tick of " + i, x.at(x.tick(i + 1) - 1), i);
        }
        due("the only tick of bar 0", x.at(0), 0);
        due("the next one", x.at(1), 1);
        ScoreRoads longest = threeWays();
        for (int b = 0; b < 20; b++) {
            longest.bar(b, 32, 1000);
        }
        due("the last tick of the longest", longest.at(202 * 32000L - 1), 201);
        due("the first tick of its last bar", longest.at(201 * 32000L), 201);
        due("the tick before", longest.at(201 * 32000L - 1), 200);
    }

    private static void atNone() {
        sentence("Promise 13", "NONE when none does");
        ScoreRoads[] pages = {new ScoreRoads(1), new ScoreRoads(20), threeWays()};
        int[] numbers = {1, 20, 202};
        long[] far = {Long.MIN_VALUE, Long.MIN_VALUE + 1, Long.MAX_VALUE, Long.MAX_VALUE - 1, LOWEST, HIGHEST,
            1L << 32, -(1L << 32), (1L << 32) + 1, (1L << 63) + 5, 1L << 31, 1L << 40};
        for (int p = 0; p < pages.length; p++) {
            ScoreRoads x = pages[p];
            long all = 160L * numbers[p];
            due("the last tick", x.at(all - 1), numbers[p] - 1);
            due("behind the last tick", x.at(all), NONE);
            due("tick 0", x.at(0), 0);
            due("tick -1", x.at(-1), NONE);
            for (long tick : far) {
                due("tick " + tick, x.at(tick), NONE);
            }
        }
        ScoreRoads y = roads(1, 0, START, 1);
        throwsDue("a fault", STATE, () -> y.at(0));
        throwsDue("a fault, before all bars", STATE, () -> y.at(-1));
        throwsDue("a fault, far", STATE, () -> y.at(Long.MAX_VALUE));
        throwsDue("a fault, far", STATE, () -> y.at(Long.MIN_VALUE));
    }

    private static void faultBeforeAllElse() {
        sentence("Promise 9", "IllegalStateException when there is a fault");
        ScoreRoads x = roads(2, 1, START, 1);
        int[] indexes = {0, 1, 2, -1, LOWEST, HIGHEST};
        for (int i : indexes) {
            throwsDue("played " + i, STATE, () -> x.played(i));
        }
        x.sign(1, START, 0);
        due("mended", x.played(1), 1);
        throwsDue("mended, not so many", INDEX, () -> x.played(2));
    }
}
