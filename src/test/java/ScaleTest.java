/** Promises 7 to 10: rungs, nearest, rung, stepOf. */
public final class ScaleTest {

    private static final int MIN = Integer.MIN_VALUE;
    private static final int MAX = Integer.MAX_VALUE;

    /** The modes written out by hand, from the document's rule. */
    private static final int[][] MODES = {
        {0, 2, 4, 5, 7, 9, 11},
        {0, 2, 3, 5, 7, 9, 10},
        {0, 1, 3, 5, 7, 8, 10},
        {0, 2, 4, 6, 7, 9, 11},
        {0, 2, 4, 5, 7, 9, 10},
        {0, 2, 3, 5, 7, 8, 10},
        {0, 1, 3, 5, 6, 8, 10},
        {0, 1, 2, 3, 4, 5, 6, 7, 8, 9, 10, 11},
    };

    public static void main(String[] args) {
        for (int key = 0; key < 12; key++) {
            for (int mode = 0; mode < 8; mode++) {
                everyScale(key, mode);
            }
        }
        promise7Rungs();
        promise8Nearest();
        promise8WrongInputs();
        promise9WrongInputs();
        promise10WrongInputs();
        Check.end();
    }

    private static void everyScale(int key, int mode) {
        String scale = " in " + key + ", " + mode;
        TunedWrens x = new TunedWrens();
        x.setScale(key, mode);
        int number = 0;
        int lower = -1;
        for (int pitch = 0; pitch <= 12000; pitch += 100) {
            int due = -1;
            for (int step = 0; step < MODES[mode].length; step++) {
                if ((key + MODES[mode][step]) % 12 == pitch / 100 % 12) {
                    due = step;
                }
            }
            Check.same("stepOf " + pitch + scale, x.stepOf(pitch), due);
            if (due >= 0) {
                Check.same("rung " + number + scale, x.rung(number), pitch);
                between(x, lower, pitch, scale);
                lower = pitch;
                number++;
            }
        }
        between(x, lower, 12001, scale);
        Check.same("rungs" + scale, x.rungs(), number);
        int past = number;
        Check.noIndex("rung " + past + scale, x, () -> x.rung(past));
    }

    /** The nearest rung of the pitches from one rung, or -1, to the next one, or 12001. */
    private static void between(TunedWrens x, int lower, int upper, String scale) {
        for (int pitch = Math.max(lower, 0); pitch <= Math.min(upper, 12000); pitch += 1) {
            boolean low = upper == 12001 || lower >= 0 && pitch - lower <= upper - pitch;
            if (x.nearest(pitch) != (low ? lower : upper)) {
                Check.same("nearest " + pitch + scale, x.nearest(pitch), low ? lower : upper);
            }
        }
    }

    private static void promise7Rungs() {
        TunedWrens x = new TunedWrens();
        Check.same("ten octaves of seven, and the top", x.rungs(), 71);
        x.setScale(1, 0);
        Check.same("0 is the step 6 of the key 1", x.rungs(), 71);
        x.setScale(11, 0);
        Check.same("neither 0 nor 12000 in the key 11", x.rungs(), 70);
        x.setScale(5, 7);
        Check.same("all semitones", x.rungs(), 121);
    }

    private static void promise8Nearest() {
        TunedWrens x = new TunedWrens();
        Check.same("of two the lower one", x.nearest(6100), 6000);
        Check.same("1 more", x.nearest(6101), 6200);
        Check.same("between 6400 and 6500", x.nearest(6450), 6400);
        Check.same("above the middle", x.nearest(6451), 6500);
        x.setScale(11, 0);
        Check.same("below the lowest rung", x.nearest(0), 100);
        Check.same("above the highest rung", x.nearest(12000), 11900);
        String before = Check.state(x);
        x.nearest(5000);
        Check.holds("nearest changes nothing", before.equals(Check.state(x)));
    }

    private static void promise8WrongInputs() {
        TunedWrens x = Check.sungObject();
        for (int pitch : new int[] {-1, 12001, MIN, MAX}) {
            Check.noArgument("nearest " + pitch, x, () -> x.nearest(pitch));
        }
    }

    private static void promise9WrongInputs() {
        TunedWrens x = Check.sungObject();
        for (int number : new int[] {-1, 71, 121, MIN, MAX}) {
            Check.noIndex("rung " + number, x, () -> x.rung(number));
        }
    }

    private static void promise10WrongInputs() {
        TunedWrens x = Check.sungObject();
        Check.same("between rungs", x.stepOf(250), -1);
        Check.same("1 beside a rung", x.stepOf(201), -1);
        Check.same("1 below a rung", x.stepOf(199), -1);
        for (int pitch : new int[] {-1, -1000, 12001, 12200, MIN, MAX}) {
            Check.noArgument("stepOf " + pitch, x, () -> x.stepOf(pitch));
        }
    }
}
