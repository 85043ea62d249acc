/** Promises 1 to 3: a new object, setScale, setNudging. */
public final class SettingsTest {

    private static final int MIN = Integer.MIN_VALUE;
    private static final int MAX = Integer.MAX_VALUE;

    public static void main(String[] args) {
        promise1NothingWasSung();
        promise1Settings();
        promise2ScaleIsSet();
        promise2RungsAreKeptOrLost();
        promise2WrongInputs();
        promise3Speed();
        promise3Leash();
        promise3Glide();
        promise3WrongInputs();
        Check.end();
    }

    private static void promise1NothingWasSung() {
        TunedWrens x = new TunedWrens();
        for (int wren = 0; wren < 4; wren++) {
            Check.same("new rungOf", x.rungOf(wren), -1);
            Check.same("new nudgeOf", x.nudgeOf(wren), 0);
            Check.same("new framesOf", x.framesOf(wren), 0);
            Check.same("new changesOf", x.changesOf(wren), 0);
            Check.same("new leapsOf", x.leapsOf(wren), 0);
            Check.same("new cleanOf", x.cleanOf(wren), 0);
        }
        for (int semitone = 0; semitone < 12; semitone++) {
            Check.same("new sung", x.sung(semitone), 0);
        }
        for (int mode = 0; mode < 8; mode++) {
            Check.same("new bestKey", x.bestKey(mode), 0);
            Check.same("new within", x.within(11, mode), 0);
        }
        Check.same("new inOctaves", x.inOctaves(), 0);
    }

    private static void promise1Settings() {
        TunedWrens x = new TunedWrens();
        int[] steps = {0, -1, 1, -1, 2, 3, -1, 4, -1, 5, -1, 6};
        for (int semitone = 0; semitone < 12; semitone++) {
            Check.same("key 0 and mode 0 at first", x.stepOf(semitone * 100), steps[semitone]);
        }
        Check.same("speed 100 at first", x.sing(0, 6049), 6000);
        x.sing(1, 6400);
        Check.same("leash 60 at first", x.sing(1, 6460), 6400);
        Check.same("61 is let go at first", x.sing(1, 6461), 6500);
        x.sing(2, 6000);
        x.sing(2, 6400);
        Check.same("400 is no leap at first", x.leapsOf(2), 0);
        x.sing(2, 5900);
        Check.same("500 is a leap at first", x.leapsOf(2), 1);
    }

    private static void promise2ScaleIsSet() {
        TunedWrens x = new TunedWrens();
        Check.same("setScale without rungs", x.setScale(11, 7), 0);
        Check.same("rungs of all semitones", x.rungs(), 121);
        Check.same("step of the key", x.stepOf(1100), 0);
        Check.same("setScale (2, 5)", x.setScale(2, 5), 0);
        // the mode 5 is 0 2 3 5 7 8 10
        int[] rungs = {0, 200, 400, 500, 700, 900, 1000, 1200, 1400};
        for (int number = 0; number < rungs.length; number++) {
            Check.same("rung of (2, 5)", x.rung(number), rungs[number]);
        }
        Check.same("setScale back", x.setScale(0, 0), 0);
        Check.same("rungs back", x.rungs(), 71);
    }

    private static void promise2RungsAreKeptOrLost() {
        TunedWrens x = new TunedWrens();
        x.sing(0, 6010);
        x.sing(1, 6520);
        x.sing(2, 7130);
        Check.same("two rungs are lost", x.setScale(1, 0), 1);
        Check.same("6000 is step 6 of key 1", x.rungOf(0), 6000);
        Check.same("6500 is step 2 of key 1", x.rungOf(1), 6500);
        Check.same("7100 is none of key 1", x.rungOf(2), -1);
        Check.same("a nudge stays without the rung", x.nudgeOf(2), -30);
        Check.same("a nudge stays with the rung", x.nudgeOf(1), -20);
        Check.same("no rung stays none", x.rungOf(3), -1);
        Check.same("the same scale again", x.setScale(1, 0), 0);
        Check.same("both that are left", x.setScale(11, 0), 2);
        Check.same("none is left", x.inOctaves(), 0);
        x.setNudging(0, 60, 0);
        Check.same("the nudge that stayed is used", x.sing(2, 7130), 7100);
        Check.same("a first rung is no change", x.changesOf(2), 0);
        Check.same("nor a leap", x.leapsOf(2), 0);
        TunedWrens all = new TunedWrens();
        for (int wren = 0; wren < 4; wren++) {
            all.sing(wren, 6500);
        }
        Check.same("all four lose theirs", all.setScale(11, 0), 4);
    }

    private static void promise2WrongInputs() {
        TunedWrens x = Check.sungObject();
        int[] keys = {-1, 12, MIN, MAX};
        int[] modes = {-1, 8, MIN, MAX};
        for (int key : keys) {
            Check.noArgument("setScale key " + key, x, () -> x.setScale(key, 0));
            for (int mode : modes) {
                Check.noArgument("setScale " + key + " " + mode, x, () -> x.setScale(key, mode));
            }
        }
        for (int mode : modes) {
            Check.noArgument("setScale mode " + mode, x, () -> x.setScale(7, mode));
        }
        x.setScale(0, 0);
        x.setScale(11, 7);
    }

    private static void promise3Speed() {
        TunedWrens x = new TunedWrens();
        x.setNudging(0, 60, 400);
        Check.same("speed 0", x.sing(0, 6030), 6030);
        x.setNudging(50, 60, 400);
        Check.same("speed 50", x.sing(0, 6030), 6015);
        Check.same("half of 15 rounds towards 0", x.sing(0, 6030), 6008);
        x.setNudging(1, 60, 400);
        Check.same("1 at least", x.sing(0, 6030), 6007);
        x.setNudging(100, 60, 400);
        Check.same("speed 100", x.sing(0, 6030), 6000);
    }

    private static void promise3Leash() {
        TunedWrens x = new TunedWrens();
        x.setNudging(100, 600, 400);
        x.sing(0, 6000);
        Check.same("600 up is kept", x.sing(0, 6600), 6000);
        Check.same("600 down is kept", x.sing(0, 5400), 6000);
        Check.same("601 is not", x.sing(0, 6601), 6601);
        Check.same("its nudge is 0 in the leap", x.nudgeOf(0), 0);
        x.setNudging(100, 0, 12000);
        x.sing(1, 6000);
        Check.same("on the rung it is kept", x.sing(1, 6000), 6000);
        Check.same("0 lets go at once, to the nearest", x.sing(1, 6101), 6200);
        Check.same("a change", x.changesOf(1), 1);
    }

    private static void promise3Glide() {
        TunedWrens x = new TunedWrens();
        x.setNudging(100, 60, 0);
        x.sing(0, 6000);
        Check.same("any change is a leap with glide 0", x.sing(0, 6190), 6190);
        Check.same("one leap", x.leapsOf(0), 1);
        x.setNudging(100, 60, 12000);
        x.sing(1, 0);
        Check.same("none is with glide 12000", x.sing(1, 11990), 12000);
        Check.same("no leap", x.leapsOf(1), 0);
        x.setNudging(100, 60, 11999);
        x.sing(1, 5);
        Check.same("12000 is farther than 11999", x.leapsOf(1), 1);
    }

    private static void promise3WrongInputs() {
        TunedWrens x = Check.sungObject();
        int[] speeds = {-1, 101, MIN, MAX};
        int[] leashes = {-1, 601, MIN, MAX};
        int[] glides = {-1, 12001, MIN, MAX};
        for (int speed : speeds) {
            Check.noArgument("speed " + speed, x, () -> x.setNudging(speed, 10, 10));
        }
        for (int leash : leashes) {
            Check.noArgument("leash " + leash, x, () -> x.setNudging(10, leash, 10));
        }
        for (int glide : glides) {
            Check.noArgument("glide " + glide, x, () -> x.setNudging(10, 10, glide));
        }
        x.setNudging(0, 0, 0);
        x.setNudging(100, 600, 12000);
    }
}
