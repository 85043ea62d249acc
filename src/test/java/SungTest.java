/** Promises 18 to 21: sung, bestKey, within, inOctaves. */
public final class SungTest {

    public static void main(String[] args) {
        promise18OfAnObjectThatHasSungNothing();
        promise18EachSemitone();
        promise18Modulo12();
        promise18AsItWasSung();
        promise18OfAllWrens();
        promise18WrongInputs();
        promise19OfAnObjectThatHasSungNothing();
        promise19BestKey();
        promise19OfSeveralTheLowest();
        promise19WrongInputs();
        promise20OfAnObjectThatHasSungNothing();
        promise20Within();
        promise20LeastAndGreatest();
        promise20WrongInputs();
        promise21OfAnObjectThatHasSungNothing();
        promise21InOctaves();
        promise21WholeOctavesApart();
        promise21WithoutRungs();
        askingChangesNothing();
        Check.end();
    }

    private static void promise18OfAnObjectThatHasSungNothing() {
        TunedWrens x = new TunedWrens();
        for (int semitone = 0; semitone < 12; semitone++) {
            Check.same("nothing was sung", x.sung(semitone), 0);
        }
        x.rest(0);
        x.setScale(3, 3);
        x.framesToRung(0, 0);
        x.nearest(0);
        Check.same("nothing was sung yet", x.sung(0), 0);
    }

    /** "the pitch as it was sung, and 50, together, divided by 100": the least and the greatest pitch of each. */
    private static void promise18EachSemitone() {
        for (int number = 0; number <= 120; number++) {
            int semitone = number % 12;
            TunedWrens x = new TunedWrens();
            x.sing(0, Math.max(number * 100 - 50, 0));
            x.sing(1, number * 100);
            x.sing(2, Math.min(number * 100 + 49, 12000));
            Check.same("the semitone " + number, x.sung(semitone), 3);
            if (number > 0) {
                x.sing(0, number * 100 - 51);
                Check.same("one less than " + number, x.sung((semitone + 11) % 12), 1);
            }
            if (number < 120) {
                x.sing(0, number * 100 + 50);
                Check.same("one more than " + number, x.sung((semitone + 1) % 12), 1);
            }
            Check.same("not with " + number, x.sung(semitone), 3);
        }
    }

    /** "modulo 12": the semitone after 11 is 0. */
    private static void promise18Modulo12() {
        TunedWrens x = new TunedWrens();
        x.sing(0, 1149);
        Check.same("1149 is semitone 11", x.sung(11), 1);
        x.sing(0, 1150);
        Check.same("1150 is semitone 0", x.sung(0), 1);
        x.sing(0, 11949);
        Check.same("11949 is semitone 11", x.sung(11), 2);
        x.sing(0, 11950);
        Check.same("11950 is semitone 0", x.sung(0), 2);
        x.sing(0, 0);
        x.sing(0, 12000);
        Check.same("0 and 12000 are semitone 0", x.sung(0), 4);
        Check.same("and none is semitone 1", x.sung(1), 0);
    }

    /** "the pitch as it was sung": not as it is let out, nor its rung. */
    private static void promise18AsItWasSung() {
        TunedWrens x = new TunedWrens();
        Check.same("let out at 200", x.sing(0, 149), 200);
        Check.same("but sung as semitone 1", x.sung(1), 1);
        Check.same("not as 2", x.sung(2), 0);
    }

    private static void promise18OfAllWrens() {
        TunedWrens x = new TunedWrens();
        for (int wren = 0; wren < 4; wren++) {
            x.sing(wren, 300 + 1200 * wren);
        }
        Check.same("one of each", x.sung(3), 4);
        x.slide(1, 2600, 3800, 2);
        Check.same("slides count", x.sung(2), 2);
        x.slide(3, 2700, 2700, 50);
        Check.same("with all their frames", x.sung(3), 54);
        x.rest(0);
        x.setScale(5, 5);
        x.setNudging(0, 0, 0);
        Check.same("all stays counted", x.sung(2) + x.sung(3), 56);
    }

    private static void promise18WrongInputs() {
        for (int semitone : Check.outside(0, 11)) {
            Check.noIndex("sung " + semitone, x -> x.sung(semitone));
        }
    }

    private static void promise19OfAnObjectThatHasSungNothing() {
        TunedWrens x = Check.inScale(9, 3);
        for (int mode = 0; mode < 8; mode++) {
            Check.same("all keys have none, the lowest is 0", x.bestKey(mode), 0);
        }
    }

    private static void promise19BestKey() {
        TunedWrens x = new TunedWrens();
        x.sing(0, 100);
        Check.same("mode 0: the key 0 has no semitone 1", x.bestKey(0), 1);
        // the mode 2 has the step 1, so that the key 0 has the semitone 1
        Check.same("mode 2 has it with the key 0", x.bestKey(2), 0);
        for (int semitone : new int[] {4, 6, 8, 9, 11, 13, 15}) {
            x.sing(1, 4800 + semitone * 100);
        }
        Check.same("the scale of the key 4", x.bestKey(0), 4);
        Check.same("its fifth step on", x.bestKey(4), 11);
        Check.same("its last step on", x.bestKey(6), 3);
        Check.same("of all semitones each key has all", x.bestKey(7), 0);
        x.setScale(9, 3);
        Check.same("the scale that is set does not matter", x.bestKey(0), 4);
        // the key 11 has 11 1 3 4 6 8 10
        TunedWrens y = new TunedWrens();
        for (int semitone : new int[] {11, 1, 3, 4, 6, 8, 10}) {
            y.sing(3, 1200 + semitone * 100);
        }
        Check.same("the greatest key", y.bestKey(0), 11);
        Check.same("the least mode and the greatest one", y.bestKey(7), 0);
        y.slide(0, 3600, 3600, 50);
        Check.same("the most frames, not the most semitones", y.bestKey(0), 1);
    }

    /** "Returns the key, of several the lowest." */
    private static void promise19OfSeveralTheLowest() {
        for (int semitone = 0; semitone < 12; semitone++) {
            TunedWrens x = new TunedWrens();
            x.sing(0, 2400 + semitone * 100);
            // the lowest key of which the semitone is a step: 1, 3, 6, 8 and 10 are none of the key 0
            int[] due = {0, 1, 0, 1, 0, 0, 1, 0, 1, 0, 1, 0};
            Check.same("semitone " + semitone + " in the mode 0", x.bestKey(0), due[semitone]);
            Check.same("semitone " + semitone + " in the mode 7", x.bestKey(7), 0);
        }
        TunedWrens y = new TunedWrens();
        y.sing(0, 1100);
        y.sing(0, 500);
        // 5 and 11 are the steps 3 and 6 of the key 0, and 6 and 3 of the key 6
        Check.same("the keys 0 and 6", y.bestKey(0), 0);
        y.sing(0, 600);
        Check.same("the key 6 alone", y.bestKey(0), 6);
    }

    private static void promise19WrongInputs() {
        for (int mode : Check.outside(0, 7)) {
            Check.noArgument("bestKey " + mode, x -> x.bestKey(mode));
        }
    }

    private static void promise20OfAnObjectThatHasSungNothing() {
        TunedWrens x = new TunedWrens();
        for (int key = 0; key < 12; key++) {
            for (int mode = 0; mode < 8; mode++) {
                Check.same("nothing within " + key + ", " + mode, x.within(key, mode), 0);
            }
        }
    }

    private static void promise20Within() {
        TunedWrens x = new TunedWrens();
        // as many frames of each semitone as its number tells in binary: each scale has a sum of its own
        for (int semitone = 0; semitone < 5; semitone++) {
            for (int frame = 0; frame < 1 << semitone; frame++) {
                x.sing(frame % 4, 6000 + semitone * 100);
            }
        }
        Check.same("0, 2 and 4", x.within(0, 0), 1 + 4 + 16);
        Check.same("1 and 3, and 0 as the last step", x.within(1, 0), 1 + 2 + 8);
        Check.same("0, 2 and 3", x.within(0, 5), 1 + 4 + 8);
        Check.same("0, 1 and 3", x.within(0, 2), 1 + 2 + 8);
        Check.same("1, 3 and 4", x.within(11, 0), 2 + 8 + 16);
        Check.same("all", x.within(11, 7), 31);
        x.setScale(3, 7);
        Check.same("not of the scale that is set", x.within(0, 0), 21);
    }

    /** "key: 0 to 11", "mode: 0 to 7". */
    private static void promise20LeastAndGreatest() {
        TunedWrens x = new TunedWrens();
        x.sing(0, 0);
        x.sing(1, 49);
        x.sing(2, 12000);
        Check.same("0 in the least of both", x.within(0, 0), 3);
        Check.same("0 in the greatest of both", x.within(11, 7), 3);
        Check.same("0 in the greatest key", x.within(11, 0), 0);
        Check.same("0 in the greatest key, mode 6", x.within(11, 6), 3);
        Check.same("0 in the greatest mode", x.within(0, 7), 3);
        x.sing(3, 50);
        Check.same("50 is semitone 1", x.within(0, 0), 3);
        Check.same("which all semitones have", x.within(0, 7), 4);
    }

    private static void promise20WrongInputs() {
        for (int key : Check.outside(0, 11)) {
            Check.noArgument("within key " + key, x -> x.within(key, 7));
            for (int mode : Check.outside(0, 7)) {
                Check.noArgument("within " + key + " " + mode, x -> x.within(key, mode));
            }
        }
        for (int mode : Check.outside(0, 7)) {
            Check.noArgument("within mode " + mode, x -> x.within(11, mode));
        }
    }

    private static void promise21OfAnObjectThatHasSungNothing() {
        Check.same("four without rungs are no pair", new TunedWrens().inOctaves(), 0);
    }

    /** "Returns 0 to 6." */
    private static void promise21InOctaves() {
        TunedWrens x = new TunedWrens();
        x.sing(0, 6010);
        Check.same("one alone", x.inOctaves(), 0);
        x.sing(2, 7190);
        Check.same("an octave up", x.inOctaves(), 1);
        x.sing(1, 6200);
        Check.same("another one is beside it", x.inOctaves(), 1);
        x.sing(1, 6000);
        Check.same("three, the same and octaves apart", x.inOctaves(), 3);
        x.sing(3, 0);
        Check.same("all four", x.inOctaves(), 6);
        x.sing(3, 12000);
        Check.same("all four, from the top", x.inOctaves(), 6);
        x.sing(3, 700);
        x.sing(1, 1900);
        Check.same("two pairs", x.inOctaves(), 2);
        Check.same("of rungs, not of what is let out", x.sing(1, 8280) - x.sing(3, 7130), 8280 - 7130);
        Check.same("8300 and 7100", x.inOctaves(), 2);
    }

    private static void promise21WholeOctavesApart() {
        for (int apart = 0; apart <= 12000; apart += 100) {
            TunedWrens x = Check.inScale(0, 7);
            x.sing(1, 12000);
            x.sing(3, 12000 - apart);
            Check.same(apart + " down", x.inOctaves(), apart % 1200 == 0 ? 1 : 0);
            x.rest(1);
            x.rest(3);
            x.sing(2, 0);
            x.sing(0, apart);
            Check.same(apart + " up", x.inOctaves(), apart % 1200 == 0 ? 1 : 0);
        }
    }

    private static void promise21WithoutRungs() {
        TunedWrens x = new TunedWrens();
        for (int wren = 0; wren < 4; wren++) {
            x.sing(wren, 6500);
        }
        Check.same("all four", x.inOctaves(), 6);
        x.rest(1);
        Check.same("three", x.inOctaves(), 3);
        x.rest(3);
        Check.same("two", x.inOctaves(), 1);
        Check.same("both others lose their rungs", x.setScale(11, 0), 2);
        Check.same("none", x.inOctaves(), 0);
        TunedWrens y = Check.inScale(0, 7);
        y.sing(0, 1100);
        Check.same("1100 is not an octave from no rung", y.inOctaves(), 0);
    }

    private static void askingChangesNothing() {
        Check.changesNothing("sung", x -> x.sung(3));
        Check.changesNothing("bestKey", x -> x.bestKey(2));
        Check.changesNothing("within", x -> x.within(4, 2));
        Check.changesNothing("inOctaves", x -> x.inOctaves());
    }
}
