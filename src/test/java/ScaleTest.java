/** Promises 7 to 10: rungs, nearest, rung, stepOf. */
public final class ScaleTest {

    /** The modes written out by hand, from the document's rule. */
    private static final int[][] MODES = {
        {0, 2, 4, 5, 7, 9, 11},
        {0, 2, 3, 5, 7, 9, 10},
        {0, 1, 3, 5, 7, 8, 10},
        {0, 2, 4, 6, 7, 9, 11},
        {0, 2, 4, 5, 7, 9, 10},
        {0, 2, 3, 5, 7, 8, 10},
        {0, 1, 3, 5, 6, 8, 10},
        {0, 1, 2, 3, 4, 5, 6, 7, 8, 9, 10, 11},
    };

    public static void main(String[] args) {
        for (int key = 0; key < 12; key++) {
            for (int mode = 0; mode < 8; mode++) {
                everyScale(key, mode);
            }
        }
        promise7Rungs();
        promise8Nearest();
        promise8BeyondTheLastRungs();
        promise8WrongInputs();
        promise9LowestAndHighest();
        promise9WrongInputs();
        promise10FirstAndLastStep();
        promise10NoRung();
        promise10WrongInputs();
        askingChangesNothing();
        Check.end();
    }

    private static void everyScale(int key, int mode) {
        String scale = " in " + key + ", " + mode;
        TunedWrens x = Check.inScale(key, mode);
        int number = 0;
        int lower = -1;
        for (int pitch = 0; pitch <= 12000; pitch += 100) {
            int due = -1;
            for (int step = 0; step < MODES[mode].length; step++) {
                if ((key + MODES[mode][step]) % 12 == pitch / 100 % 12) {
                    due = step;
                }
            }
            Check.same("stepOf " + pitch + scale, x.stepOf(pitch), due);
            if (due >= 0) {
                Check.same("rung " + number + scale, x.rung(number), pitch);
                between(lower, pitch, key, mode);
                lower = pitch;
                number++;
            }
        }
        between(lower, 12001, key, mode);
        Check.same("rungs" + scale, x.rungs(), number);
        int past = number;
        Check.noIndex("rung " + past + scale, () -> Check.inScale(key, mode), y -> y.rung(past));
        Check.noIndex("rung -1" + scale, () -> Check.inScale(key, mode), y -> y.rung(-1));
    }

    /** The nearest rung of the pitches from one rung, or -1, to the next one, or 12001; and that they are no rungs. */
    private static void between(int lower, int upper, int key, int mode) {
        TunedWrens x = Check.inScale(key, mode);
        for (int pitch = Math.max(lower, 0); pitch <= Math.min(upper, 12000); pitch++) {
            boolean low = upper == 12001 || lower >= 0 && pitch - lower <= upper - pitch;
            int due = low ? lower : upper;
            if (x.nearest(pitch) != due || pitch % 100 != 0 && x.stepOf(pitch) != -1) {
                Check.tell("pitch " + pitch + " in " + key + ", " + mode + " is not nearest to " + due + ", or a rung");
            }
        }
    }

    /** "How many rungs there are": of a new object, and of the scales with the fewest and the most. */
    private static void promise7Rungs() {
        TunedWrens x = new TunedWrens();
        Check.same("ten octaves of seven, and the top", x.rungs(), 71);
        x.setScale(1, 0);
        Check.same("0 is the step 6 of the key 1", x.rungs(), 71);
        x.setScale(11, 0);
        Check.same("neither 0 nor 12000 in the key 11", x.rungs(), 70);
        x.setScale(5, 7);
        Check.same("all semitones", x.rungs(), 121);
        x.sing(0, 6000);
        x.setNudging(0, 0, 0);
        Check.same("whatever is sung", x.rungs(), 121);
    }

    private static void promise8Nearest() {
        TunedWrens x = new TunedWrens();
        Check.same("the least pitch", x.nearest(0), 0);
        Check.same("the greatest pitch", x.nearest(12000), 12000);
        Check.same("just on a rung", x.nearest(6200), 6200);
        Check.same("1 below the middle", x.nearest(6099), 6000);
        Check.same("of two the lower one", x.nearest(6100), 6000);
        Check.same("1 above the middle", x.nearest(6101), 6200);
        Check.same("between 6400 and 6500", x.nearest(6450), 6400);
        Check.same("1 above the middle of these", x.nearest(6451), 6500);
    }

    private static void promise8BeyondTheLastRungs() {
        TunedWrens x = Check.inScale(11, 0);
        Check.same("below the lowest rung", x.nearest(0), 100);
        Check.same("just below the lowest rung", x.nearest(99), 100);
        Check.same("just above the highest rung", x.nearest(11901), 11900);
        Check.same("above the highest rung", x.nearest(12000), 11900);
    }

    private static void promise8WrongInputs() {
        for (int pitch : Check.outside(0, 12000)) {
            Check.noArgument("nearest " + pitch, x -> x.nearest(pitch));
        }
    }

    /** "number: 0 for the lowest one". */
    private static void promise9LowestAndHighest() {
        TunedWrens x = new TunedWrens();
        Check.same("the lowest one", x.rung(0), 0);
        Check.same("the second one", x.rung(1), 200);
        Check.same("the last but one", x.rung(69), 11900);
        Check.same("the last one", x.rung(70), 12000);
        x.setScale(11, 0);
        Check.same("the lowest one of the key 11", x.rung(0), 100);
        Check.same("the last one of the key 11", x.rung(69), 11900);
        x.setScale(11, 7);
        Check.same("the lowest one of all semitones", x.rung(0), 0);
        Check.same("the last one of all semitones", x.rung(120), 12000);
    }

    private static void promise9WrongInputs() {
        // a new object has 71 rungs, and one that has sung has so too
        for (int number : Check.outside(0, 70)) {
            Check.noIndex("rung " + number, x -> x.rung(number));
        }
        for (int number : Check.outside(0, 69)) {
            Check.noIndex("rung " + number + " in the key 11", () -> Check.inScale(11, 0), x -> x.rung(number));
        }
        for (int number : Check.outside(0, 120)) {
            Check.noIndex("rung " + number + " in the mode 7", () -> Check.inScale(3, 7), x -> x.rung(number));
        }
    }

    /** "0 for the first step, which is the key itself, .. 6 at most, or 11 in the mode 7". */
    private static void promise10FirstAndLastStep() {
        TunedWrens x = Check.inScale(7, 1);
        Check.same("the key itself", x.stepOf(700), 0);
        Check.same("the second step", x.stepOf(900), 1);
        Check.same("the last step", x.stepOf(500), 6);
        Check.same("the key at the top", x.stepOf(11500), 0);
        x.setScale(7, 7);
        Check.same("the key of the mode 7", x.stepOf(700), 0);
        Check.same("the second step of the mode 7", x.stepOf(800), 1);
        Check.same("the last step of the mode 7", x.stepOf(600), 11);
        Check.same("the least pitch", x.stepOf(0), 5);
        Check.same("the greatest pitch", x.stepOf(12000), 5);
    }

    /** "-1 if it is no rung". */
    private static void promise10NoRung() {
        TunedWrens x = new TunedWrens();
        Check.same("a rung", x.stepOf(200), 1);
        Check.same("1 above a rung", x.stepOf(201), -1);
        Check.same("1 below a rung", x.stepOf(199), -1);
        Check.same("a semitone that is no step", x.stepOf(100), -1);
        Check.same("between semitones", x.stepOf(250), -1);
        Check.same("1 above the lowest rung", x.stepOf(1), -1);
        Check.same("1 below the highest rung", x.stepOf(11999), -1);
        x.setScale(11, 0);
        Check.same("the least pitch", x.stepOf(0), -1);
        Check.same("the greatest pitch", x.stepOf(12000), -1);
        x.setScale(0, 7);
        Check.same("1 above a rung of the mode 7", x.stepOf(101), -1);
    }

    private static void promise10WrongInputs() {
        for (int pitch : Check.outside(0, 12000)) {
            Check.noArgument("stepOf " + pitch, x -> x.stepOf(pitch));
        }
        Check.noArgument("stepOf -100, a step of the mode an octave down", x -> x.stepOf(-100));
        Check.noArgument("stepOf 12200, a step of the mode octaves up", x -> x.stepOf(12200));
    }

    private static void askingChangesNothing() {
        Check.changesNothing("rungs", x -> x.rungs());
        Check.changesNothing("nearest", x -> x.nearest(5050));
        Check.changesNothing("rung", x -> x.rung(33));
        Check.changesNothing("stepOf", x -> x.stepOf(5000));
    }
}
