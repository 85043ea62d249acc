/** Promises 18 to 21: sung, bestKey, within, inOctaves. */
public final class SungTest {

    private static final int MIN = Integer.MIN_VALUE;
    private static final int MAX = Integer.MAX_VALUE;

    public static void main(String[] args) {
        promise18Sung();
        promise18WrongInputs();
        promise19BestKey();
        promise19WrongInputs();
        promise20Within();
        promise20WrongInputs();
        promise21InOctaves();
        Check.end();
    }

    private static void promise18Sung() {
        TunedWrens x = new TunedWrens();
        x.sing(0, 49);
        Check.same("49 is semitone 0", x.sung(0), 1);
        x.sing(1, 50);
        Check.same("50 is semitone 1", x.sung(1), 1);
        x.sing(2, 149);
        Check.same("149 is so too, as it was sung", x.sung(1), 2);
        x.sing(3, 12000);
        Check.same("12000 is semitone 0", x.sung(0), 2);
        x.sing(0, 1149);
        Check.same("1149 is semitone 11", x.sung(11), 1);
        x.sing(0, 1150);
        Check.same("1150 is semitone 0", x.sung(0), 3);
        x.slide(1, 2600, 3800, 2);
        Check.same("slides count", x.sung(2), 2);
        x.rest(0);
        x.setScale(5, 5);
        Check.same("all stays counted", x.sung(0) + x.sung(1) + x.sung(2) + x.sung(11), 8);
    }

    private static void promise18WrongInputs() {
        TunedWrens x = Check.sungObject();
        for (int semitone : new int[] {-1, 12, MIN, MAX}) {
            Check.noIndex("sung " + semitone, x, () -> x.sung(semitone));
        }
    }

    private static void promise19BestKey() {
        TunedWrens x = new TunedWrens();
        x.sing(0, 100);
        Check.same("mode 0: the key 1 is not the lowest with 1 in it", x.bestKey(0), 1);
        // the mode 2 has the step 1, so that the key 0 has the semitone 1
        Check.same("mode 2 has it with the key 0", x.bestKey(2), 0);
        for (int semitone : new int[] {4, 6, 8, 9, 11, 13, 15}) {
            x.sing(1, 4800 + semitone * 100);
        }
        Check.same("the scale of the key 4", x.bestKey(0), 4);
        Check.same("its fifth step on", x.bestKey(4), 11);
        Check.same("its last step on", x.bestKey(6), 3);
        Check.same("of all semitones each key has all", x.bestKey(7), 0);
        x.setScale(9, 3);
        Check.same("the scale that is set does not matter", x.bestKey(0), 4);
    }

    private static void promise19WrongInputs() {
        TunedWrens x = Check.sungObject();
        for (int mode : new int[] {-1, 8, MIN, MAX}) {
            Check.noArgument("bestKey " + mode, x, () -> x.bestKey(mode));
        }
    }

    private static void promise20Within() {
        TunedWrens x = new TunedWrens();
        // as many frames of each semitone as its number tells in binary: each scale has a sum of its own
        for (int semitone = 0; semitone < 5; semitone++) {
            for (int frame = 0; frame < 1 << semitone; frame++) {
                x.sing(frame % 4, 6000 + semitone * 100);
            }
        }
        Check.same("0, 2 and 4", x.within(0, 0), 1 + 4 + 16);
        Check.same("1 and 3, and 0 as the last step", x.within(1, 0), 1 + 2 + 8);
        Check.same("0, 2 and 3", x.within(0, 5), 1 + 4 + 8);
        Check.same("0, 1 and 3", x.within(0, 2), 1 + 2 + 8);
        Check.same("1, 3 and 4", x.within(11, 0), 2 + 8 + 16);
        Check.same("all", x.within(11, 7), 31);
        x.setScale(3, 7);
        Check.same("not of the scale that is set", x.within(0, 0), 21);
    }

    private static void promise20WrongInputs() {
        TunedWrens x = Check.sungObject();
        for (int key : new int[] {-1, 12, MIN, MAX}) {
            Check.noArgument("within key " + key, x, () -> x.within(key, 7));
        }
        for (int mode : new int[] {-1, 8, MIN, MAX}) {
            Check.noArgument("within mode " + mode, x, () -> x.within(11, mode));
        }
    }

    private static void promise21InOctaves() {
        TunedWrens x = new TunedWrens();
        x.sing(0, 6010);
        Check.same("one alone", x.inOctaves(), 0);
        x.sing(2, 7190);
        Check.same("an octave up", x.inOctaves(), 1);
        x.sing(1, 6200);
        Check.same("another one is beside it", x.inOctaves(), 1);
        x.sing(1, 6000);
        Check.same("three, the same and octaves apart", x.inOctaves(), 3);
        x.sing(3, 0);
        Check.same("all four", x.inOctaves(), 6);
        x.setScale(0, 7);
        x.sing(3, 600);
        Check.same("half an octave is none", x.inOctaves(), 3);
        x.rest(1);
        Check.same("without a rung", x.inOctaves(), 1);
        x.sing(3, 700);
        x.sing(1, 1900);
        Check.same("two pairs", x.inOctaves(), 2);
        x.rest(1);
        x.rest(3);
        Check.same("two without rungs are no pair", x.inOctaves(), 1);
    }
}
