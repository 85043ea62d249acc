/** Promises 11 to 17: rungOf, nudgeOf, framesOf, changesOf, leapsOf, cleanOf, framesToRung. */
public final class WrensTest {

    public static void main(String[] args) {
        promise11Rung();
        promise12Nudge();
        promise13Frames();
        promise14Changes();
        promise15Leaps();
        promise16Clean();
        promise16JustOnARung();
        promise11To16OfTheOtherWrens();
        promise11To16StayCounted();
        promise11To16WrongInputs();
        promise17OfAnObjectThatHasSungNothing();
        promise17LeastAndGreatest();
        promise17FramesToRung();
        promise17TheFirstFrame();
        promise17WithoutARungButWithANudge();
        promise17OnTheRungThatItHas();
        promise17NotWithin999();
        promise17AsManyAsAreSung();
        promise17WrongInputs();
        askingChangesNothing();
        Check.end();
    }

    /** "Returns the rung; -1 if it has none": 0 is one, and 12000. */
    private static void promise11Rung() {
        TunedWrens x = new TunedWrens();
        Check.same("none at first", x.rungOf(0), -1);
        x.sing(0, 59);
        Check.same("the rung 0", x.rungOf(0), 0);
        x.sing(0, 160);
        Check.same("after a change", x.rungOf(0), 200);
        x.sing(0, 12000);
        Check.same("after a leap to the rung 12000", x.rungOf(0), 12000);
        x.sing(3, 6100);
        Check.same("of the last wren", x.rungOf(3), 6000);
        x.rest(0);
        Check.same("none after a rest", x.rungOf(0), -1);
        x.setScale(11, 0);
        Check.same("none after a loss", x.rungOf(3), -1);
    }

    /** "Returns cents, perhaps below 0": -600 to 600, as far as the leash goes. */
    private static void promise12Nudge() {
        TunedWrens x = new TunedWrens();
        Check.same("0 at first", x.nudgeOf(0), 0);
        x.sing(0, 6030);
        Check.same("below 0", x.nudgeOf(0), -30);
        x.sing(0, 5970);
        Check.same("above 0", x.nudgeOf(0), 30);
        x.sing(0, 6000);
        Check.same("0 where nothing is due", x.nudgeOf(0), 0);
        x.setNudging(100, 600, 400);
        x.sing(0, 6600);
        Check.same("the least", x.nudgeOf(0), -600);
        x.sing(0, 5400);
        Check.same("the greatest", x.nudgeOf(0), 600);
        x.sing(0, 7000);
        Check.same("0 in a leap", x.nudgeOf(0), 0);
        x.sing(3, 6090);
        Check.same("of the last wren", x.nudgeOf(3), -90);
    }

    private static void promise13Frames() {
        TunedWrens x = new TunedWrens();
        Check.same("none at first", x.framesOf(3), 0);
        x.sing(3, 6000);
        Check.same("one", x.framesOf(3), 1);
        x.slide(3, 6000, 7000, 2);
        Check.same("as many as a slide has, 2", x.framesOf(3), 3);
        x.slide(3, 6000, 7000, 50);
        Check.same("as many as a slide has, 50", x.framesOf(3), 53);
        x.rest(3);
        Check.same("a rest is none", x.framesOf(3), 53);
        x.framesToRung(3, 6000);
        Check.same("those looked ahead are none", x.framesOf(3), 53);
        Check.same("of another wren", x.framesOf(0), 0);
    }

    private static void promise14Changes() {
        TunedWrens x = new TunedWrens();
        Check.same("none at first", x.changesOf(0), 0);
        x.sing(0, 6000);
        Check.same("a first rung is none", x.changesOf(0), 0);
        x.sing(0, 6060);
        Check.same("none within the leash", x.changesOf(0), 0);
        x.sing(0, 6200);
        Check.same("one", x.changesOf(0), 1);
        x.sing(0, 7400);
        Check.same("a leap is one", x.changesOf(0), 2);
        x.slide(0, 7200, 7400, 2);
        Check.same("those of a slide", x.changesOf(0), 4);
        Check.same("of another wren", x.changesOf(3), 0);
    }

    /** "How many of these were leaps". */
    private static void promise15Leaps() {
        TunedWrens x = new TunedWrens();
        Check.same("none at first", x.leapsOf(0), 0);
        x.sing(0, 6000);
        Check.same("a first rung is none", x.leapsOf(0), 0);
        x.sing(0, 6400);
        Check.same("a change within the glide is none", x.leapsOf(0), 0);
        x.sing(0, 6900);
        Check.same("one past the glide", x.leapsOf(0), 1);
        x.slide(0, 6000, 12000, 2);
        Check.same("those of a slide", x.leapsOf(0), 3);
        x.sing(0, 12000);
        Check.same("none to the same rung", x.leapsOf(0), 3);
        Check.same("of another wren", x.leapsOf(3), 0);
    }

    /** "let out just on a rung of the scale of that time". */
    private static void promise16Clean() {
        TunedWrens x = new TunedWrens();
        Check.same("none at first", x.cleanOf(0), 0);
        x.setNudging(0, 60, 400);
        x.sing(0, 6000);
        Check.same("just on its rung", x.cleanOf(0), 1);
        x.sing(0, 6100);
        Check.same("on a semitone that is no rung", x.cleanOf(0), 1);
        x.setNudging(0, 600, 400);
        x.sing(0, 6200);
        Check.same("on another rung than its own", x.cleanOf(0), 2);
        Check.same("which it keeps", x.rungOf(0), 6000);
        x.setScale(6, 0);
        Check.same("what was clean stays so in another scale", x.cleanOf(0), 2);
        x.sing(0, 6200);
        Check.same("6200 is no rung of this scale", x.cleanOf(0), 2);
        x.sing(0, 6600);
        Check.same("6600 is one", x.cleanOf(0), 3);
        TunedWrens y = new TunedWrens();
        y.sing(0, 1000);
        y.sing(0, 7200);
        Check.same("in a leap too", y.cleanOf(0), 2);
        y.slide(0, 7200, 7400, 50);
        Check.same("each one of a slide", y.cleanOf(0), 52);
    }

    private static void promise16JustOnARung() {
        TunedWrens x = new TunedWrens();
        x.setNudging(0, 60, 400);
        x.sing(3, 5999);
        Check.same("1 below a rung", x.cleanOf(3), 0);
        x.sing(3, 6001);
        Check.same("1 above a rung", x.cleanOf(3), 0);
        x.sing(3, 6000);
        Check.same("just on it", x.cleanOf(3), 1);
        x.sing(3, 0);
        Check.same("the rung 0", x.cleanOf(3), 2);
        x.sing(3, 12000);
        Check.same("the rung 12000", x.cleanOf(3), 3);
    }

    private static void promise11To16OfTheOtherWrens() {
        TunedWrens x = new TunedWrens();
        x.slide(1, 6000, 9000, 44);
        for (int other : new int[] {0, 2, 3}) {
            Check.alike("wren " + other, Check.ofWren(x, other), " -1 0 0 0 0 0");
        }
    }

    private static void promise11To16StayCounted() {
        TunedWrens x = new TunedWrens();
        x.sing(1, 6030);
        x.sing(1, 6170);
        x.sing(1, 9000);
        Check.alike("as it was sung", Check.ofWren(x, 1), " 8900 0 3 2 1 2");
        x.rest(1);
        x.setScale(4, 4);
        x.setNudging(0, 0, 0);
        Check.alike("after a rest and other settings", Check.ofWren(x, 1), " -1 0 3 2 1 2");
    }

    private static void promise11To16WrongInputs() {
        for (int wren : Check.outside(0, 3)) {
            Check.noIndex("rungOf " + wren, x -> x.rungOf(wren));
            Check.noIndex("nudgeOf " + wren, x -> x.nudgeOf(wren));
            Check.noIndex("framesOf " + wren, x -> x.framesOf(wren));
            Check.noIndex("changesOf " + wren, x -> x.changesOf(wren));
            Check.noIndex("leapsOf " + wren, x -> x.leapsOf(wren));
            Check.noIndex("cleanOf " + wren, x -> x.cleanOf(wren));
        }
    }

    private static void promise17OfAnObjectThatHasSungNothing() {
        TunedWrens x = new TunedWrens();
        for (int wren = 0; wren < 4; wren++) {
            Check.same("in one frame", x.framesToRung(wren, 6049), 1);
            Check.same("just on a rung", x.framesToRung(wren, 6000), 1);
        }
        x.setNudging(0, 60, 400);
        for (int wren = 0; wren < 4; wren++) {
            Check.same("never at the speed 0", x.framesToRung(wren, 6049), -1);
            Check.same("but just on a rung", x.framesToRung(wren, 6000), 1);
        }
        x.setNudging(100, 60, 0);
        Check.same("the first rung is no leap", x.framesToRung(0, 9090), 1);
    }

    /** "wren: 0 to 3", "pitch: 0 to 12000". */
    private static void promise17LeastAndGreatest() {
        TunedWrens x = Check.inScale(11, 0);
        x.setNudging(50, 60, 400);
        // what is missing: 100, 50, 25, 13, 7, 4, 2, 1, 0
        Check.same("the least of both", x.framesToRung(0, 0), 8);
        Check.same("the greatest of both", x.framesToRung(3, 12000), 8);
        Check.same("just below the lowest rung", x.framesToRung(3, 99), 1);
        Check.same("just above the highest rung", x.framesToRung(0, 11901), 1);
    }

    private static void promise17FramesToRung() {
        TunedWrens x = new TunedWrens();
        Check.same("at the speed 100 in one", x.framesToRung(0, 6049), 1);
        x.setNudging(50, 60, 400);
        // what is missing: 49, 25, 13, 7, 4, 2, 1, 0
        Check.same("at half the speed", x.framesToRung(0, 6049), 7);
        x.sing(0, 6049);
        Check.same("one was sung", x.framesToRung(0, 6049), 6);
        for (int frame = 0; frame < 5; frame++) {
            Check.holds("not yet there", x.sing(0, 6049) != 6000);
        }
        Check.same("the last one", x.framesToRung(0, 6049), 1);
        Check.same("is clean", x.sing(0, 6049), 6000);
        Check.same("and so is each further one", x.framesToRung(0, 6049), 1);
        x.setNudging(0, 60, 400);
        Check.same("at the speed 0, with the nudge that is due", x.framesToRung(0, 6049), 1);
        Check.same("and with another one", x.framesToRung(0, 6050), -1);
        x.setNudging(1, 600, 400);
        Check.same("one cent a frame", x.framesToRung(0, 6000), 49);
    }

    private static void promise17TheFirstFrame() {
        TunedWrens x = new TunedWrens();
        x.sing(0, 6000);
        Check.same("a leap takes one more", x.framesToRung(0, 7190), 2);
        Check.same("but not to a pitch just on its rung", x.framesToRung(0, 7200), 1);
        Check.same("a change takes none", x.framesToRung(0, 6390), 1);
        x.sing(0, 6030);
        Check.same("a leap lets the nudge go", x.framesToRung(0, 7230), 2);
        Check.same("no leap without a rung", x.framesToRung(1, 7190), 1);
        x.setNudging(100, 60, 0);
        Check.same("a change by 200 is a leap too", x.framesToRung(0, 6190), 2);
        x.setNudging(100, 600, 400);
        Check.same("the rung that is kept", x.framesToRung(0, 6600), 1);
        Check.same("one farther is a leap", x.framesToRung(0, 6601), 2);
    }

    private static void promise17WithoutARungButWithANudge() {
        TunedWrens x = new TunedWrens();
        x.sing(2, 7130);
        Check.same("7100 is lost", x.setScale(1, 0), 1);
        x.setNudging(0, 60, 0);
        Check.same("30 above a rung, with the nudge of -30", x.framesToRung(2, 7230), 1);
        Check.same("31 above a rung", x.framesToRung(2, 7231), -1);
        Check.same("just on a rung", x.framesToRung(2, 7200), -1);
        x.setNudging(10, 60, 0);
        // -30 to 0: 3, 2, 2, 2, 2, then 19 by 1 each
        Check.same("back to 0 at the speed 10", x.framesToRung(2, 7200), 24);
    }

    /** "just on the rung that it has in that frame": another rung of the scale will not do. */
    private static void promise17OnTheRungThatItHas() {
        TunedWrens x = new TunedWrens();
        x.sing(0, 6030);
        x.setNudging(0, 600, 400);
        Check.same("30 above its own", x.framesToRung(0, 6030), 1);
        Check.same("30 above another one, let out just on that", x.framesToRung(0, 6230), -1);
        Check.same("which is clean", x.sing(0, 6230) - x.cleanOf(0), 6200 - 2);
        x.setNudging(1, 600, 400);
        // -30 to -300: 2 frames of 2, 266 below 0 each by 1 in 100 or 1, passing 6200 where the nudge is -100
        Check.holds("it does not stop at another one", x.framesToRung(0, 6300) > framesTo(-30, -100, -300, 1));
        Check.same("but goes on to its own", x.framesToRung(0, 6300), framesTo(-30, -300, -300, 1));
    }

    /** In how many frames a nudge comes to one value, or past it, on its way down to what is due. */
    private static int framesTo(int nudge, int value, int due, int speed) {
        int frames = 0;
        while (nudge > value) {
            nudge -= Math.max((nudge - due) * speed / 100, 1);
            frames++;
        }
        return frames;
    }

    /** "-1 if that would not come within 999": it never does at the speed 0, where the nudge is not what is due. */
    private static void promise17NotWithin999() {
        TunedWrens x = new TunedWrens();
        x.setNudging(100, 600, 12000);
        x.sing(0, 6000);
        x.sing(0, 6600);
        x.setNudging(0, 600, 12000);
        Check.same("at the speed 0", x.framesToRung(0, 5400), -1);
        Check.same("1 beside it at the speed 0", x.framesToRung(0, 6599), -1);
        Check.same("at once at the speed 0", x.framesToRung(0, 6600), 1);
        Check.same("after a leap to a rung at the speed 0", Check.nudging(0, 0, 0).framesToRung(0, 0), 1);
        x.setNudging(0, 0, 0);
        Check.same("in a leap just on the rung at the speed 0", x.framesToRung(0, 7200), 1);
        Check.same("in a leap beside it at the speed 0", x.framesToRung(0, 7201), -1);
        x.setNudging(1, 600, 12000);
        int due = 0;
        for (int missing = 1200; missing != 0; missing -= Math.max(1, missing / 100)) {
            due++;
        }
        Check.same("at the speed 1, from -600 to 600", x.framesToRung(0, 5400), due);
    }

    /** "In how many more frames": if these are sung, the last one, and none before it, is on the rung. */
    private static void promise17AsManyAsAreSung() {
        for (int speed : new int[] {1, 2, 3, 7, 10, 33, 50, 99, 100}) {
            for (int pitch : new int[] {5400, 5401, 5950, 6000, 6010, 6050, 6051, 6350, 6401, 6599, 6600, 6601, 7777}) {
                TunedWrens x = Check.nudging(100, 600, 400);
                x.sing(1, 6000);
                x.sing(1, 6345);
                x.setNudging(speed, 600, 400);
                int due = x.framesToRung(1, pitch);
                int frames = 1;
                while (x.sing(1, pitch) != x.rungOf(1) && frames < 240) {
                    frames++;
                }
                if (due <= 240) {
                    Check.same("to " + pitch + " at the speed " + speed, due, frames);
                }
            }
        }
    }

    private static void promise17WrongInputs() {
        for (int wren : Check.outside(0, 3)) {
            Check.noIndex("framesToRung wren " + wren, x -> x.framesToRung(wren, 6000));
        }
        for (int pitch : Check.outside(0, 12000)) {
            Check.noArgument("framesToRung of wren 0, pitch " + pitch, x -> x.framesToRung(0, pitch));
            Check.noArgument("framesToRung of wren 3, pitch " + pitch, x -> x.framesToRung(3, pitch));
        }
    }

    private static void askingChangesNothing() {
        for (int wren = 0; wren < 4; wren++) {
            int who = wren;
            Check.changesNothing("what is asked of wren " + wren, x -> Check.ofWren(x, who));
            for (int pitch = 0; pitch <= 12000; pitch += 250) {
                int at = pitch;
                Check.changesNothing("framesToRung", x -> x.framesToRung(who, at));
            }
        }
    }
}
