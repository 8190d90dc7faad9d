import java.util.function.LongSupplier;

/** What the tests of single answers share: each answer is held against the one that is due, and counted. */
abstract class Dues {
    static final int START = 0;
    static final int END = 1;
    static final int ENDING = 2;
    static final int SEGNO = 3;
    static final int CODA = 4;
    static final int FINE = 5;
    static final int OVER = 6;
    static final int JUMP = 7;
    static final int LETTER = 8;
    static final int DOUBLE = 9;
    static final int KINDS = 10;
    static final int NONE = -1;
    static final int LOWEST = Integer.MIN_VALUE;
    static final int HIGHEST = Integer.MAX_VALUE;
    static final Class<?> ARGUMENT = IllegalArgumentException.class;
    static final Class<?> STATE = IllegalStateException.class;
    static final Class<?> INDEX = IndexOutOfBoundsException.class;

    private static String sentence = "";
    private static int sentences = 0;
    private static int asked = 0;
    private static int wrong = 0;

    /** Tells of which promise or term the answers that follow are, and the words that they hold it to. */
    static void sentence(String of, String words) {
        sentence = of + ", \"" + words + "\": ";
        sentences++;
    }

    /** Runs one test; a call that throws though an answer is due ends this test alone. */
    static void test(Runnable test) {
        sentence = "";
        try {
            test.run();
        } catch (RuntimeException e) {
            wrong++;
            System.out.println(sentence + "throws." + e.getClass().getSimpleName() + " where an answer is due");
            for (StackTraceElement line : e.getStackTrace()) {
                if (line.getClassName().endsWith("Test")) {
                    System.out.println("    at " + line);
                }
            }
        }
    }

    static void end() {
        String held = sentences == 0 ? "" : sentences + " sentences, ";
        System.out.println(held + asked + " answers looked at, " + wrong + " wrong");
        if (wrong != 0) {
            System.exit(1);
        }
    }

    static void tell(String what, String got, String want) {
        asked++;
        if (!got.equals(want)) {
            wrong++;
            System.out.println(sentence + what + ": answered " + got + ", due is " + want);
        }
    }

    static void due(String what, long got, long want) {
        tell(what, Long.toString(got), Long.toString(want));
    }

    static void due(String what, boolean got, boolean want) {
        tell(what, Boolean.toString(got), Boolean.toString(want));
    }

    static void throwsDue(String what, Class<?> want, LongSupplier call) {
        tell(what, outcome(call), "throws." + want.getSimpleName());
    }

    static String outcome(LongSupplier call) {
        try {
            return Long.toString(call.getAsLong());
        } catch (RuntimeException e) {
            return "throws." + e.getClass().getSimpleName();
        }
    }

    static long doBar(ScoreRoads x, int b, int length, int tempo) {
        x.bar(b, length, tempo);
        return 0;
    }

    static long doSign(ScoreRoads x, int b, int kind, int value) {
        return x.sign(b, kind, value) ? 1 : 0;
    }

    /** A page with signs, each one told by its bar, kind and value. */
    static ScoreRoads roads(int bars, int... signs) {
        ScoreRoads x = new ScoreRoads(bars);
        for (int s = 0; s + 2 < signs.length; s += 3) {
            x.sign(signs[s], signs[s + 1], signs[s + 2]);
        }
        return x;
    }

    /** The OVER in a first ending is never followed, so bar 3 comes before the jump, behind it, and as the coda. */
    static ScoreRoads threeWays() {
        return roads(20, 0, ENDING, 1, 0, END, 2, 0, OVER, 1, 1, ENDING, 2, 2, START, 1, 2, JUMP, 11, 3, CODA, 1,
                19, END, 4, 19, OVER, 1);
    }

    static void checkDue(String what, int want, ScoreRoads x) {
        due(what, x.check(), want);
    }

    static void playedDue(String what, String want, ScoreRoads x) {
        StringBuilder got = new StringBuilder();
        if (x.check() != 0) {
            got.append("fault ").append(x.check());
        }
        for (int i = 0; i < x.plays(); i++) {
            got.append(i == 0 ? "" : " ").append(x.played(i));
        }
        tell(what, got.toString(), want);
    }

    /** A sound's begin, pitch, length in sixteenths and length in ticks. */
    static void soundDue(String what, ScoreRoads x, int part, int i, long... wants) {
        for (int w = 0; w < wants.length; w++) {
            due(what + ", what " + w, x.sound(part, i, w), wants[w]);
        }
    }

    static void pitchesDue(String what, ScoreRoads x, int part, int... wants) {
        due(what + ", number", x.sounds(part), wants.length);
        for (int i = 0; i < wants.length; i++) {
            due(what + ", pitch " + i, x.sound(part, i, 1), wants[i]);
        }
    }

    static void restsDue(String what, ScoreRoads x, int part, int... wants) {
        for (int i = 0; i < wants.length; i++) {
            due(what + ", group " + i, x.rest(part, i), wants[i]);
        }
        due(what + ", no more", x.rest(part, wants.length), NONE);
    }
}
