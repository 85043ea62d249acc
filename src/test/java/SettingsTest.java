/** Promises 1 to 3: a new object, setScale, setNudging. */
public final class SettingsTest {

    public static void main(String[] args) {
        promise1NothingWasSung();
        promise1Settings();
        promise1EachObjectHasItsOwn();
        promise2ScaleIsSet();
        promise2EachKeyAndMode();
        promise2OfAnObjectThatHasSungNothing();
        promise2RungsAreKeptOrLost();
        promise2RungsAtTheEnds();
        promise2ReturnsHowManyAreLost();
        promise2NudgesStay();
        promise2WrongInputs();
        promise3OfAnObjectThatHasSungNothing();
        promise3LeastAndGreatest();
        promise3Speed();
        promise3Leash();
        promise3Glide();
        promise3WrongInputs();
        Check.end();
    }

    private static void promise1NothingWasSung() {
        TunedWrens x = new TunedWrens();
        for (int wren = 0; wren < 4; wren++) {
            Check.same("new rungOf", x.rungOf(wren), -1);
            Check.same("new nudgeOf", x.nudgeOf(wren), 0);
            Check.same("new framesOf", x.framesOf(wren), 0);
            Check.same("new changesOf", x.changesOf(wren), 0);
            Check.same("new leapsOf", x.leapsOf(wren), 0);
            Check.same("new cleanOf", x.cleanOf(wren), 0);
        }
        for (int semitone = 0; semitone < 12; semitone++) {
            Check.same("new sung", x.sung(semitone), 0);
        }
        for (int mode = 0; mode < 8; mode++) {
            Check.same("new bestKey", x.bestKey(mode), 0);
            Check.same("new within", x.within(11, mode), 0);
        }
        Check.same("new inOctaves", x.inOctaves(), 0);
        Check.noIndex("no fifth wren", y -> y.rungOf(4));
    }

    private static void promise1Settings() {
        TunedWrens x = new TunedWrens();
        int[] steps = {0, -1, 1, -1, 2, 3, -1, 4, -1, 5, -1, 6};
        for (int semitone = 0; semitone < 12; semitone++) {
            Check.same("key 0 and mode 0 at first", x.stepOf(semitone * 100), steps[semitone]);
        }
        Check.same("speed 100 at first", x.sing(0, 6049), 6000);
        x.sing(1, 6400);
        Check.same("leash 60 at first", x.sing(1, 6460), 6400);
        Check.same("61 is let go at first", x.sing(1, 6461), 6500);
        x.sing(2, 6000);
        x.sing(2, 6400);
        Check.same("400 is no leap at first", x.leapsOf(2), 0);
        x.sing(2, 5900);
        Check.same("500 is a leap at first", x.leapsOf(2), 1);
        TunedWrens y = new TunedWrens();
        y.setNudging(100, 60, 400);
        Check.alike("setting what is set at first", Check.state(y), Check.state(new TunedWrens()));
    }

    private static void promise1EachObjectHasItsOwn() {
        TunedWrens other = new TunedWrens();
        Check.sungObject();
        Check.alike("another object's song", Check.state(other), Check.state(new TunedWrens()));
    }

    private static void promise2ScaleIsSet() {
        TunedWrens x = new TunedWrens();
        Check.same("setScale without rungs", x.setScale(11, 7), 0);
        Check.same("rungs of all semitones", x.rungs(), 121);
        Check.same("step of the key", x.stepOf(1100), 0);
        Check.same("setScale (2, 5)", x.setScale(2, 5), 0);
        // the mode 5 is 0 2 3 5 7 8 10
        int[] rungs = {0, 200, 400, 500, 700, 900, 1000, 1200, 1400};
        for (int number = 0; number < rungs.length; number++) {
            Check.same("rung of (2, 5)", x.rung(number), rungs[number]);
        }
        Check.same("setScale back", x.setScale(0, 0), 0);
        Check.same("rungs back", x.rungs(), 71);
    }

    /** "key: 0 to 11", "mode: 0 to 7": the least and the greatest, each with each. */
    private static void promise2EachKeyAndMode() {
        for (int key = 0; key <= 11; key++) {
            for (int mode = 0; mode <= 7; mode++) {
                TunedWrens x = new TunedWrens();
                Check.same("no rung is lost", x.setScale(key, mode), 0);
                Check.same("the key of " + key + ", " + mode, x.stepOf(key * 100), 0);
                Check.same("the highest key of " + key + ", " + mode, x.stepOf(10800 + key * 100), 0);
            }
        }
        // the modes 0 and 6 differ in their second step, 6 and 7 in their first one
        Check.same("mode 0", Check.inScale(11, 0).stepOf(0), -1);
        Check.same("mode 6", Check.inScale(11, 6).stepOf(0), 1);
        Check.same("mode 6, two semitones up", Check.inScale(11, 6).stepOf(100), -1);
        Check.same("mode 7, two semitones up", Check.inScale(11, 7).stepOf(100), 2);
    }

    private static void promise2OfAnObjectThatHasSungNothing() {
        TunedWrens x = new TunedWrens();
        Check.same("no wren has a rung to lose", x.setScale(11, 0), 0);
        Check.same("nor is there one", x.rungOf(0), -1);
        Check.same("nor with all semitones", x.setScale(0, 7), 0);
        Check.same("nor back", x.setScale(0, 0), 0);
        Check.alike("back to the first scale", Check.state(x), Check.state(new TunedWrens()));
    }

    private static void promise2RungsAreKeptOrLost() {
        TunedWrens x = new TunedWrens();
        x.sing(0, 6010);
        x.sing(1, 6520);
        x.sing(2, 7130);
        Check.same("one rung is lost", x.setScale(1, 0), 1);
        Check.same("6000 is step 6 of key 1", x.rungOf(0), 6000);
        Check.same("6500 is step 2 of key 1", x.rungOf(1), 6500);
        Check.same("7100 is none of key 1", x.rungOf(2), -1);
        Check.same("no rung stays none", x.rungOf(3), -1);
        Check.same("the same scale again", x.setScale(1, 0), 0);
        Check.same("both that are left", x.setScale(11, 0), 2);
        Check.same("none is left", x.inOctaves(), 0);
        Check.same("what is lost does not come back", x.setScale(0, 7), 0);
        Check.same("also with all semitones", x.rungOf(0), -1);
        x.setNudging(0, 60, 0);
        Check.same("the nudge that stayed is used", x.sing(2, 7130), 7100);
        Check.same("a first rung is no change", x.changesOf(2), 0);
        Check.same("nor a leap", x.leapsOf(2), 0);
    }

    /** 0 and 12000 are rungs that a wren has, and can lose. */
    private static void promise2RungsAtTheEnds() {
        TunedWrens x = new TunedWrens();
        x.sing(0, 10);
        x.sing(3, 11990);
        Check.same("both are kept", x.setScale(10, 0), 0);
        Check.same("the rung 0", x.rungOf(0), 0);
        Check.same("the rung 12000", x.rungOf(3), 12000);
        Check.same("both are lost", x.setScale(11, 0), 2);
        Check.same("no longer 0", x.rungOf(0), -1);
        Check.same("no longer 12000", x.rungOf(3), -1);
    }

    /** "Returns how many wrens lose their rungs": 0 to 4. */
    private static void promise2ReturnsHowManyAreLost() {
        for (int singing = 0; singing <= 4; singing++) {
            TunedWrens x = new TunedWrens();
            for (int wren = 0; wren < singing; wren++) {
                x.sing(wren, 6500);
            }
            Check.same("none is lost of " + singing, x.setScale(0, 7), 0);
            Check.same("all are lost of " + singing, x.setScale(11, 0), singing);
            Check.same("and not again of " + singing, x.setScale(0, 0), 0);
        }
    }

    /** "nudges stay", those of kept rungs and of lost ones; and so does all that is counted. */
    private static void promise2NudgesStay() {
        TunedWrens x = new TunedWrens();
        x.sing(0, 6030);
        x.sing(1, 7130);
        x.slide(2, 3000, 3700, 8);
        x.sing(2, 3980);
        Check.same("7100 and 4000", x.setScale(3, 4), 2);
        Check.alike("with the rung", Check.ofWren(x, 0), " 6000 -30 1 0 0 1");
        Check.alike("without it", Check.ofWren(x, 1), " -1 -30 1 0 0 1");
        Check.alike("with what was counted", Check.ofWren(x, 2), " -1 20 9 5 0 9");
        Check.same("what was sung", x.sung(0), 2);
    }

    private static void promise2WrongInputs() {
        for (int key : Check.outside(0, 11)) {
            Check.noArgument("setScale key " + key, x -> x.setScale(key, 3));
            for (int mode : Check.outside(0, 7)) {
                Check.noArgument("setScale " + key + " " + mode, x -> x.setScale(key, mode));
            }
        }
        for (int mode : Check.outside(0, 7)) {
            Check.noArgument("setScale mode " + mode, x -> x.setScale(7, mode));
        }
    }

    private static void promise3OfAnObjectThatHasSungNothing() {
        TunedWrens x = new TunedWrens();
        x.setNudging(0, 0, 0);
        x.setNudging(100, 600, 12000);
        for (int wren = 0; wren < 4; wren++) {
            Check.alike("a wren that has not sung", Check.ofWren(x, wren), " -1 0 0 0 0 0");
        }
        x.setNudging(100, 60, 400);
        Check.alike("back to the first nudging", Check.state(x), Check.state(new TunedWrens()));
    }

    /** "speed: 0 to 100", "leash: 0 to 600", "glide: 0 to 12000": the least with the greatest. */
    private static void promise3LeastAndGreatest() {
        Check.alike("speed 0, leash 0, glide 0", sungWith(0, 0, 0), "6130 6800 2 2");
        Check.alike("speed 100, leash 0, glide 0", sungWith(100, 0, 0), "6130 6800 2 2");
        Check.alike("speed 0, leash 600, glide 0", sungWith(0, 600, 0), "6130 6800 1 1");
        Check.alike("speed 0, leash 0, glide 12000", sungWith(0, 0, 12000), "6130 6800 2 0");
        Check.alike("speed 100, leash 600, glide 0", sungWith(100, 600, 0), "6000 6800 1 1");
        Check.alike("speed 100, leash 0, glide 12000", sungWith(100, 0, 12000), "6200 6700 2 0");
        Check.alike("speed 0, leash 600, glide 12000", sungWith(0, 600, 12000), "6130 6800 1 0");
        Check.alike("speed 100, leash 600, glide 12000", sungWith(100, 600, 12000), "6000 6700 1 0");
    }

    /** What 6000, 6130 and 6800 come to: two that are let out, the changes and the leaps. */
    private static String sungWith(int speed, int leash, int glide) {
        TunedWrens x = new TunedWrens();
        x.setNudging(speed, leash, glide);
        x.sing(0, 6000);
        String out = x.sing(0, 6130) + " " + x.sing(0, 6800);
        return out + " " + x.changesOf(0) + " " + x.leapsOf(0);
    }

    private static void promise3Speed() {
        TunedWrens x = new TunedWrens();
        x.setNudging(0, 60, 400);
        Check.same("speed 0", x.sing(0, 6030), 6030);
        x.setNudging(1, 60, 400);
        Check.same("speed 1, 1 at least", x.sing(0, 6030), 6029);
        x.setNudging(50, 60, 400);
        Check.same("speed 50, half of 29 rounds towards 0", x.sing(0, 6030), 6015);
        Check.same("speed 50, half of 15", x.sing(0, 6030), 6008);
        x.setNudging(99, 60, 400);
        Check.same("speed 99, of 8", x.sing(0, 6030), 6001);
        TunedWrens y = new TunedWrens();
        y.setNudging(100, 60, 400);
        Check.same("speed 100", y.sing(0, 6030), 6000);
    }

    private static void promise3Leash() {
        TunedWrens x = new TunedWrens();
        x.setNudging(100, 600, 400);
        x.sing(0, 6000);
        Check.same("600 up is kept", x.sing(0, 6600), 6000);
        Check.same("600 down is kept", x.sing(0, 5400), 6000);
        Check.same("601 is not", x.sing(0, 6601), 6601);
        Check.same("its nudge is 0 in the leap", x.nudgeOf(0), 0);
        x.setNudging(100, 0, 12000);
        x.sing(1, 6000);
        Check.same("on the rung it is kept", x.sing(1, 6000), 6000);
        Check.same("0 lets go at once, to the nearest", x.sing(1, 6101), 6200);
        Check.same("a change", x.changesOf(1), 1);
    }

    private static void promise3Glide() {
        TunedWrens x = new TunedWrens();
        x.setNudging(100, 60, 0);
        x.sing(0, 6000);
        Check.same("any change is a leap with glide 0", x.sing(0, 6190), 6190);
        Check.same("one leap", x.leapsOf(0), 1);
        x.setNudging(100, 60, 12000);
        x.sing(1, 0);
        Check.same("none is with glide 12000", x.sing(1, 11990), 12000);
        Check.same("no leap", x.leapsOf(1), 0);
        x.setNudging(100, 60, 11999);
        x.sing(1, 5);
        Check.same("12000 is farther than 11999", x.leapsOf(1), 1);
    }

    private static void promise3WrongInputs() {
        for (int speed : Check.outside(0, 100)) {
            Check.noArgument("speed " + speed, x -> x.setNudging(speed, 100, 100));
            for (int leash : Check.outside(0, 600)) {
                Check.noArgument("speed " + speed + ", leash " + leash, x -> x.setNudging(speed, leash, 100));
                Check.noArgument("all three", x -> x.setNudging(speed, leash, 12001));
            }
        }
        for (int leash : Check.outside(0, 600)) {
            Check.noArgument("leash " + leash, x -> x.setNudging(10, leash, 100));
        }
        for (int glide : Check.outside(0, 12000)) {
            Check.noArgument("glide " + glide, x -> x.setNudging(10, 100, glide));
            Check.noArgument("speed, glide " + glide, x -> x.setNudging(-1, 100, glide));
            Check.noArgument("leash, glide " + glide, x -> x.setNudging(10, 601, glide));
        }
    }
}
