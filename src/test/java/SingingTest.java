/** Promises 4 to 6: sing, slide, rest. */
public final class SingingTest {

    private static final int MIN = Integer.MIN_VALUE;
    private static final int MAX = Integer.MAX_VALUE;

    public static void main(String[] args) {
        promise4RungIsKeptWithinTheLeash();
        promise4ChangesAndLeaps();
        promise4NudgeGoesTowardsWhatIsDue();
        promise4OutsideOfThePitches();
        promise4WrongInputs();
        promise5Pitches();
        promise5CountsChanges();
        promise5IsSinging();
        promise5WrongInputs();
        promise6Rest();
        promise6WrongInputs();
        Check.end();
    }

    private static void promise4RungIsKeptWithinTheLeash() {
        TunedWrens x = new TunedWrens();
        x.setScale(0, 7);
        Check.same("the nearest one", x.sing(0, 6051), 6100);
        Check.same("60 below is kept, though 6000 is nearer", x.sing(0, 6040), 6100);
        Check.same("61 below is not", x.sing(0, 6039), 6000);
        Check.same("60 above is kept", x.sing(0, 6060), 6000);
        Check.same("61 above is not", x.sing(0, 6061), 6100);
        x.setNudging(100, 0, 400);
        Check.same("farther than the leash, but still nearest", x.sing(0, 6149), 6100);
        Check.same("that is no change", x.changesOf(0), 2);
        Check.same("of two the lower one", x.sing(0, 6150), 6100);
        Check.same("and from above", x.sing(0, 6050), 6000);
    }

    private static void promise4ChangesAndLeaps() {
        TunedWrens x = new TunedWrens();
        x.sing(3, 6000);
        Check.same("the first rung is no change", x.changesOf(3), 0);
        Check.same("400 apart is within the glide", x.sing(3, 6390), 6400);
        Check.same("a change", x.changesOf(3), 1);
        Check.same("no leap", x.leapsOf(3), 0);
        Check.same("500 apart is a leap, also down", x.sing(3, 5890), 5890);
        Check.same("a change too", x.changesOf(3), 2);
        Check.same("a leap", x.leapsOf(3), 1);
        Check.same("let go", x.nudgeOf(3), 0);
        Check.same("the next frame is nudged", x.sing(3, 5890), 5900);
        x.setNudging(0, 60, 400);
        Check.same("a leap lets go with the speed 0 too", x.sing(3, 8010), 8010);
        Check.same("to its new rung", x.rungOf(3), 8100);
        Check.same("the first frame of all is no leap", x.leapsOf(0), 0);
        x.setNudging(100, 60, 0);
        Check.same("with a glide of 0 the first frame is none either", x.sing(0, 11990), 12000);
    }

    private static void promise4NudgeGoesTowardsWhatIsDue() {
        TunedWrens x = new TunedWrens();
        x.setNudging(33, 60, 400);
        // -50 * 33 / 100 is -16.5
        Check.same("rounded towards 0 from below", x.sing(0, 6050), 6034);
        // 16 more, not 16.5
        Check.same("nudge", x.nudgeOf(0), -16);
        // (40 + 16) * 33 / 100 is 18.48
        Check.same("rounded towards 0 from above", x.sing(0, 5960), 5962);
        x.setNudging(1, 60, 400);
        Check.same("1 up at least", x.sing(0, 5960), 5963);
        Check.same("1 down at least", x.sing(0, 6010), 6012);
        x.setNudging(1, 600, 400);
        x.setScale(0, 0);
        Check.same("-102 * 1 / 100 is -1", x.sing(0, 6100), 6101);
        Check.same("-501 * 1 / 100 is -5", x.sing(0, 6500), 6496);
        x.setNudging(0, 600, 400);
        Check.same("none with the speed 0", x.sing(0, 6500), 6496);
        TunedWrens y = new TunedWrens();
        y.setNudging(1, 60, 400);
        Check.same("nothing is due", y.sing(0, 6000), 6000);
        Check.same("no nudge", y.nudgeOf(0), 0);
    }

    private static void promise4OutsideOfThePitches() {
        TunedWrens x = new TunedWrens();
        x.setNudging(100, 600, 12000);
        x.sing(0, 0);
        Check.same("back to 0", x.sing(0, 600), 0);
        x.setNudging(0, 600, 12000);
        Check.same("below 0", x.sing(0, 500), -100);
        Check.same("which is no rung", x.cleanOf(0), 2);
        TunedWrens y = new TunedWrens();
        y.setNudging(100, 600, 12000);
        y.sing(0, 12000);
        Check.same("up to 12000", y.sing(0, 11400), 12000);
        y.setNudging(0, 600, 12000);
        Check.same("above 12000", y.sing(0, 12000), 12600);
        Check.same("no rung either", y.cleanOf(0), 2);
        Check.same("the lowest pitch", new TunedWrens().sing(3, 0), 0);
        Check.same("the highest pitch", new TunedWrens().sing(3, 12000), 12000);
    }

    private static void promise4WrongInputs() {
        TunedWrens x = Check.sungObject();
        for (int wren : new int[] {-1, 4, MIN, MAX}) {
            Check.noIndex("sing wren " + wren, x, () -> x.sing(wren, 6000));
            Check.noIndex("sing both wrong, wren " + wren, x, () -> x.sing(wren, -1));
        }
        for (int pitch : new int[] {-1, 12001, MIN, MAX}) {
            Check.noArgument("sing pitch " + pitch, x, () -> x.sing(1, pitch));
        }
    }

    private static void promise5Pitches() {
        TunedWrens x = new TunedWrens();
        Check.same("a long slide", x.slide(0, 0, 12000, 50), 49);
        Check.same("as many frames", x.framesOf(0), 50);
        TunedWrens y = new TunedWrens();
        // a semitone begins at 50, so that what sung counts tells the pitches
        y.setScale(0, 7);
        y.setNudging(0, 0, 12000);
        y.slide(0, 150, 149, 3);
        Check.same("150, then 149 twice: the first is semitone 2", y.sung(2), 1);
        Check.same("150, then 149 twice: the others are semitone 1", y.sung(1), 2);
        y.slide(1, 549, 550, 3);
        Check.same("549 twice, then 550: semitone 5", y.sung(5), 2);
        Check.same("549 twice, then 550: semitone 6", y.sung(6), 1);
        Check.same("the last pitch is reached", y.rungOf(1), 500);
        y.slide(2, 1000, 700, 4);
        for (int semitone = 7; semitone <= 10; semitone++) {
            Check.same("1000 to 700 in four, semitone " + semitone, y.sung(semitone), 1);
        }
        y.slide(3, 300, 300, 50);
        Check.same("one pitch all the time", y.sung(3), 50);
        y.slide(3, 400, 1100, 2);
        Check.same("the first of two", y.sung(4), 1);
        Check.same("the last of two", y.sung(11), 1);
    }

    private static void promise5CountsChanges() {
        TunedWrens x = new TunedWrens();
        Check.same("none within the leash", x.slide(0, 6000, 6060, 5), 0);
        Check.same("6000 to 6200 to 6400", x.slide(0, 6000, 6400, 3), 2);
        Check.same("only those of this slide", x.slide(0, 6400, 6500, 2), 1);
        Check.same("all of them", x.changesOf(0), 3);
        Check.same("the first frame changes too", x.slide(0, 7200, 7200, 2), 1);
        Check.same("not those of other wrens", x.slide(1, 6000, 6000, 2), 0);
    }

    private static void promise5IsSinging() {
        TunedWrens x = new TunedWrens();
        TunedWrens y = new TunedWrens();
        x.setNudging(40, 60, 100);
        y.setNudging(40, 60, 100);
        x.slide(2, 5003, 4511, 7);
        // 492 over 6 steps is 82 each
        for (int frame = 0; frame < 7; frame++) {
            y.sing(2, 5003 - 82 * frame);
        }
        Check.holds("a slide is as many frames", Check.state(x).equals(Check.state(y)));
    }

    private static void promise5WrongInputs() {
        TunedWrens x = Check.sungObject();
        for (int wren : new int[] {-1, 4, MIN, MAX}) {
            Check.noIndex("slide wren " + wren, x, () -> x.slide(wren, 0, 0, 2));
            Check.noIndex("slide all wrong, wren " + wren, x, () -> x.slide(wren, -1, -1, 1));
        }
        for (int pitch : new int[] {-1, 12001, MIN, MAX}) {
            Check.noArgument("slide from " + pitch, x, () -> x.slide(0, pitch, 100, 2));
            Check.noArgument("slide to " + pitch, x, () -> x.slide(0, 100, pitch, 2));
        }
        for (int frames : new int[] {-1, 0, 1, 51, MIN, MAX}) {
            Check.noArgument("slide frames " + frames, x, () -> x.slide(0, 100, 200, frames));
        }
    }

    private static void promise6Rest() {
        TunedWrens x = new TunedWrens();
        Check.same("no rung before", x.rest(0), -1);
        x.sing(0, 6010);
        x.sing(1, 7010);
        Check.same("the rung before", x.rest(0), 6000);
        Check.same("no rung", x.rungOf(0), -1);
        Check.same("no nudge", x.nudgeOf(0), 0);
        Check.same("the others sing on", x.rungOf(1), 7100);
        Check.same("no rest is counted", x.framesOf(0), 1);
        Check.same("again", x.rest(0), -1);
        x.sing(0, 9000);
        Check.same("the rung after a rest is no change", x.changesOf(0), 0);
        Check.same("nor a leap", x.leapsOf(0), 0);
        x.sing(2, 10);
        Check.same("the rung 0 is a rung", x.rest(2), 0);
        x.sing(3, 6830);
        x.setScale(11, 0);
        x.setScale(0, 0);
        x.sing(3, 7130);
        x.setScale(1, 0);
        Check.same("a lost rung is none", x.rest(3), -1);
        Check.same("but the nudge goes as well", x.nudgeOf(3), 0);
    }

    private static void promise6WrongInputs() {
        TunedWrens x = Check.sungObject();
        for (int wren : new int[] {-1, 4, MIN, MAX}) {
            Check.noIndex("rest " + wren, x, () -> x.rest(wren));
        }
    }
}
