/** The sentences of "What it is" and "Terms" that name a bound, each in a test of its own. */
public final class TermsTest {

    public static void main(String[] args) {
        anObjectHolds512Calls();
        pitchesAre0To12000();
        aRungIsAPitchOf0To12000();
        aStepIsCountedOverTheOctave();
        ofTwoRungsTheLowerOne();
        noFartherThanTheLeash();
        aLeashBelowHalfASemitone();
        theFirstRungIsNoChange();
        theSameRungAgainIsNoChange();
        fartherApartThanTheGlide();
        inALeapTheNudgeBecomes0();
        inAChangeThatIsNoLeapTheNudgeGoesOn();
        theNudgeGoesTowardsWhatIsDue();
        byOneIfThatIs0();
        notByOneAtTheSpeed0();
        letOutBelow0();
        letOutAbove12000();
        theExceptionThatIsNamedFirst();
        Check.end();
    }

    /** "An object is used for at most 512 calls": the last one is answered like the first one. */
    private static void anObjectHolds512Calls() {
        TunedWrens x = new TunedWrens();
        for (int call = 1; call <= 510; call++) {
            Check.same("slide " + call, x.slide(call % 4, 0, 1200, 50), call <= 4 ? 7 : 8);
        }
        Check.same("call 511", x.framesOf(1), 128 * 50);
        Check.same("call 512", x.within(11, 7), 510 * 50);
    }

    /** "Pitches are whole cents, 0 to 12000". */
    private static void pitchesAre0To12000() {
        TunedWrens x = new TunedWrens();
        Check.same("sing 0", x.sing(0, 0), 0);
        Check.same("sing 1", x.sing(0, 1), 0);
        Check.same("sing 11999", x.sing(1, 11999), 12000);
        Check.same("sing 12000", x.sing(1, 12000), 12000);
        Check.noArgument("sing -1", y -> y.sing(0, -1));
        Check.noArgument("sing 12001", y -> y.sing(0, 12001));
    }

    /** "A rung is a pitch of 0 to 12000": what lies beyond is none, though it is a step of the mode. */
    private static void aRungIsAPitchOf0To12000() {
        TunedWrens x = new TunedWrens();
        Check.same("0 is the lowest one", x.rung(0), 0);
        Check.same("12000 is the highest one", x.rung(70), 12000);
        x.setScale(10, 2);
        // the mode 2 is 0 1 3 5 7 8 10, so that the key 10 has 1000 1100 100 300 500 600 800
        Check.same("nearest to 0 is not -100", x.nearest(0), 100);
        Check.same("nearest to 12000 is not 12100", x.nearest(12000), 11900);
        Check.same("the lowest one", x.rung(0), 100);
        Check.same("the highest one", x.rung(x.rungs() - 1), 11900);
    }

    /** "counted from there, and over the octave", "and some octaves up or down". */
    private static void aStepIsCountedOverTheOctave() {
        TunedWrens x = Check.inScale(11, 6);
        // the mode 6 is 0 1 3 5 6 8 10, so that its last step is the semitone 21, which is 9
        Check.same("the last step of the last mode and key", x.stepOf(900), 6);
        Check.same("one octave up", x.stepOf(2100), 6);
        Check.same("in the highest octave", x.stepOf(11700), 6);
        Check.same("the key itself", x.stepOf(1100), 0);
        Check.same("below the key", x.stepOf(0), 1);
        Check.same("the top", x.stepOf(12000), 1);
        Check.same("just below the key", x.stepOf(1000), -1);
    }

    /** "The nearest rung to a pitch is the one that is least far, of two the lower one." */
    private static void ofTwoRungsTheLowerOne() {
        for (int lower = 0; lower < 12000; lower += 100) {
            TunedWrens x = Check.inScale(0, 7);
            Check.same("49 above " + lower, x.nearest(lower + 49), lower);
            Check.same("50 above " + lower, x.nearest(lower + 50), lower);
            Check.same("51 above " + lower, x.nearest(lower + 51), lower + 100);
            Check.same("50 above " + lower + ", sung", x.sing(0, lower + 50), lower);
            Check.same("51 above " + lower + ", sung", x.sing(1, lower + 51), lower + 100);
        }
        TunedWrens x = new TunedWrens();
        Check.same("99 above 6000, 101 below 6200", x.sing(0, 6099), 6000);
        Check.same("100 from both", x.sing(1, 6100), 6000);
        Check.same("101 above 6000, 99 below 6200", x.sing(2, 6101), 6200);
    }

    /** "If it has a rung, and the pitch is no farther from it than the leash (0 to 600 ..), it keeps that." */
    private static void noFartherThanTheLeash() {
        for (int leash = 51; leash <= 600; leash++) {
            TunedWrens x = Check.nudging(100, leash, 12000);
            x.sing(0, 6000);
            Check.same("at the leash " + leash + " up", x.sing(0, 6000 + leash), 6000);
            Check.same("at the leash " + leash + " down", x.sing(0, 6000 - leash), 6000);
            Check.same("no change at the leash " + leash, x.changesOf(0), 0);
            x.sing(0, 6000 + leash + 1);
            Check.same("past the leash " + leash + " up", x.rungOf(0), (6000 + leash + 50) / 100 * 100);
            x.sing(1, 6000);
            x.sing(1, 6000 - leash - 1);
            Check.same("past the leash " + leash + " down", x.rungOf(1), (6000 - leash + 48) / 100 * 100);
            Check.same("a change past the leash " + leash, x.changesOf(1), 1);
        }
    }

    /** Only half way to the rung below does a leash of 50 at the most tell: that rung is as near, and the lower one. */
    private static void aLeashBelowHalfASemitone() {
        for (int leash = 0; leash <= 60; leash++) {
            TunedWrens x = Check.nudging(100, leash, 12000);
            x.sing(0, 6100);
            Check.same("50 below with the leash " + leash, x.sing(0, 6050), leash < 50 ? 6000 : 6100);
            x.sing(1, 6100);
            Check.same("49 below with the leash " + leash, x.sing(1, 6051), 6100);
            Check.same("50 above with the leash " + leash, x.sing(1, 6150), 6100);
            Check.same("no change with the leash " + leash, x.changesOf(1), 0);
        }
    }

    /** "If it had one, and the new one is another, that is a change": without one it is none. */
    private static void theFirstRungIsNoChange() {
        TunedWrens x = Check.nudging(100, 0, 0);
        x.sing(0, 9000);
        Check.same("at first no change", x.changesOf(0), 0);
        Check.same("at first no leap", x.leapsOf(0), 0);
        x.rest(0);
        x.sing(0, 3000);
        Check.same("after a rest no change", x.changesOf(0), 0);
        Check.same("after a rest no leap", x.leapsOf(0), 0);
        x.sing(0, 3040);
        Check.same("3000 is lost", x.setScale(0, 0), 1);
        Check.same("the nudge goes on from -40, no leap", x.sing(0, 9160), 9100);
        Check.same("after a loss no change", x.changesOf(0), 0);
        Check.same("after a loss no leap", x.leapsOf(0), 0);
        x.sing(0, 6000);
        Check.same("from the rung 9100 it is a change", x.changesOf(0), 1);
        Check.same("and a leap", x.leapsOf(0), 1);
    }

    /** "and the new one is another": the nearest one may be the one that it had. */
    private static void theSameRungAgainIsNoChange() {
        TunedWrens x = new TunedWrens();
        x.setNudging(100, 60, 0);
        x.sing(0, 6000);
        Check.same("99 is past the leash, but 6000 the nearest", x.sing(0, 6099), 6000);
        Check.same("as is 100", x.sing(0, 6100), 6000);
        Check.same("no change", x.changesOf(0), 0);
        Check.same("no leap with the glide 0", x.leapsOf(0), 0);
        TunedWrens y = Check.inScale(11, 0);
        y.setNudging(100, 0, 0);
        y.sing(0, 100);
        Check.same("below the lowest rung", y.sing(0, 0), 100);
        Check.same("above the highest rung", y.sing(1, 12000), 11900);
        Check.same("and again", y.sing(1, 11900), 11900);
        Check.same("no change at the bottom", y.changesOf(0), 0);
        Check.same("no change at the top", y.changesOf(1), 0);
    }

    /** "it is also a leap, if both are farther apart than the glide (0 to 12000 ..)". */
    private static void fartherApartThanTheGlide() {
        for (int apart = 100; apart <= 12000; apart += 100) {
            for (int glide = apart - 1; glide <= Math.min(apart + 1, 12000); glide++) {
                TunedWrens x = Check.nudging(100, 0, glide);
                x.sing(0, 0);
                x.sing(0, apart);
                x.sing(1, 12000);
                x.sing(1, 12000 - apart);
                int due = glide < apart ? 1 : 0;
                Check.same(apart + " up with the glide " + glide, x.leapsOf(0), due);
                Check.same(apart + " down with the glide " + glide, x.leapsOf(1), due);
                Check.same("a change of " + apart + " with the glide " + glide, x.changesOf(0) + x.changesOf(1), 2);
            }
        }
        TunedWrens x = Check.nudging(100, 0, 0);
        x.sing(0, 6000);
        x.sing(0, 6100);
        Check.same("100 up with the glide 0", x.leapsOf(0), 1);
    }

    /** "In a leap the nudge becomes 0." */
    private static void inALeapTheNudgeBecomes0() {
        for (int speed = 0; speed <= 100; speed += 50) {
            TunedWrens x = Check.nudging(100, 60, 400);
            Check.same("nudged by -40", x.sing(0, 6040), 6000);
            x.setNudging(speed, 60, 400);
            Check.same("let go up at the speed " + speed, x.sing(0, 6540), 6540);
            Check.same("no nudge up at the speed " + speed, x.nudgeOf(0), 0);
            Check.same("let go down at the speed " + speed, x.sing(0, 5540), 5540);
            Check.same("no nudge down at the speed " + speed, x.nudgeOf(0), 0);
            Check.same("for a frame at the speed " + speed, x.sing(0, 5540), 5540 - 40 * speed / 100);
        }
    }

    /** "Otherwise the nudge goes towards what is due": from where it was, in a change too. */
    private static void inAChangeThatIsNoLeapTheNudgeGoesOn() {
        TunedWrens x = Check.nudging(100, 60, 400);
        x.sing(0, 6040);
        x.setNudging(50, 60, 400);
        // from -40 half way to 20
        Check.same("400 up", x.sing(0, 6380), 6370);
        Check.same("a change", x.changesOf(0), 1);
        x.setNudging(0, 60, 400);
        Check.same("the nudge stays at the speed 0", x.sing(0, 6080), 6070);
        Check.same("another change", x.changesOf(0), 2);
    }

    /** ".. times the speed (0 to 100 ..), divided by 100, rounded towards 0; if that is 0, .. by 1." */
    private static void theNudgeGoesTowardsWhatIsDue() {
        int[] pitches = {5400, 5401, 5900, 5901, 5949, 5950, 5998, 5999, 6000, 6001, 6002, 6050, 6051, 6100, 6599, 6600};
        for (int speed = 0; speed <= 100; speed++) {
            for (int first : pitches) {
                for (int then : pitches) {
                    TunedWrens x = Check.nudging(100, 600, 12000);
                    x.sing(2, 6000);
                    x.sing(2, first);
                    x.setNudging(speed, 600, 12000);
                    int due = nudged(6000 - first, 6000 - then, speed);
                    String what = first + " then " + then + " at the speed " + speed;
                    Check.same(what, x.sing(2, then), then + due);
                    Check.same("the nudge of " + what, x.nudgeOf(2), due);
                }
            }
        }
    }

    /** The nudge by its size and its side, so that the division is one of numbers from 0 on. */
    private static int nudged(int nudge, int due, int speed) {
        int size = Math.abs(due - nudge) * speed / 100;
        if (size == 0 && due != nudge && speed != 0) {
            size = 1;
        }
        return due > nudge ? nudge + size : nudge - size;
    }

    /** "if that is 0, though both differ and the speed is not 0, by 1". */
    private static void byOneIfThatIs0() {
        TunedWrens x = Check.nudging(1, 600, 12000);
        x.sing(0, 6000);
        Check.same("nothing is due", x.nudgeOf(0), 0);
        Check.same("1 of 1 up", x.sing(0, 5999), 6000);
        Check.same("nothing is due any more", x.sing(0, 5999), 6000);
        Check.same("1 of 2 down", x.sing(0, 6001), 6001);
        Check.same("then the other one", x.sing(0, 6001), 6000);
        Check.same("1 of 100 up, 99 to go", x.sing(0, 5901), 5901);
        Check.same("1 of 99 down", x.sing(0, 6099), 6098);
        x.setNudging(50, 600, 12000);
        x.rest(0);
        x.sing(0, 6000);
        Check.same("half of 1 is 0, thus 1", x.sing(0, 5999), 6000);
        Check.same("half of 3 is 1", x.sing(0, 6002), 6002);
        Check.same("half of 2 is 1", x.sing(0, 6002), 6001);
    }

    /** "and the speed is not 0". */
    private static void notByOneAtTheSpeed0() {
        TunedWrens x = Check.nudging(0, 600, 12000);
        for (int pitch = 5400; pitch <= 6600; pitch += 100) {
            x.sing(0, 6000);
            Check.same("at the speed 0", x.sing(0, pitch), pitch);
        }
        Check.same("no nudge", x.nudgeOf(0), 0);
        x.setNudging(100, 600, 12000);
        x.sing(0, 6010);
        x.setNudging(0, 600, 12000);
        Check.same("nor one back", x.sing(0, 6000), 5990);
        Check.same("it stays", x.nudgeOf(0), -10);
    }

    /** "(it can be below 0 ..)": such a pitch is no rung, though -100 is a step of this mode, octaves down. */
    private static void letOutBelow0() {
        TunedWrens x = new TunedWrens();
        x.setNudging(100, 600, 12000);
        Check.same("on the rung 0", x.sing(0, 0), 0);
        Check.same("back to 0", x.sing(0, 600), 0);
        x.setNudging(0, 600, 12000);
        Check.same("let out at 0", x.sing(0, 600), 0);
        Check.same("0 is clean", x.cleanOf(0), 3);
        Check.same("just below 0", x.sing(0, 599), -1);
        Check.same("100 below 0", x.sing(0, 500), -100);
        Check.same("300 below 0", x.sing(0, 300), -300);
        Check.same("600 below 0", x.sing(0, 0), -600);
        Check.same("none of these is clean", x.cleanOf(0), 3);
    }

    /** "(.. or above 12000)": such a pitch is no rung, though 12200 is a step of this mode, octaves up. */
    private static void letOutAbove12000() {
        TunedWrens x = new TunedWrens();
        x.setNudging(100, 600, 12000);
        Check.same("on the rung 12000", x.sing(0, 12000), 12000);
        Check.same("up to 12000", x.sing(0, 11400), 12000);
        x.setNudging(0, 600, 12000);
        Check.same("let out at 12000", x.sing(0, 11400), 12000);
        Check.same("12000 is clean", x.cleanOf(0), 3);
        Check.same("just above 12000", x.sing(0, 11401), 12001);
        Check.same("200 above 12000", x.sing(0, 11600), 12200);
        Check.same("400 above 12000", x.sing(0, 11800), 12400);
        Check.same("600 above 12000", x.sing(0, 12000), 12600);
        Check.same("none of these is clean", x.cleanOf(0), 3);
    }

    /** "if several exceptions apply, the one that is named first in the throws clause is thrown". */
    private static void theExceptionThatIsNamedFirst() {
        for (int wren : Check.outside(0, 3)) {
            for (int pitch : Check.outside(0, 12000)) {
                String both = " of wren " + wren + " and pitch " + pitch;
                Check.noIndex("sing" + both, x -> x.sing(wren, pitch));
                Check.noIndex("slide from" + both, x -> x.slide(wren, pitch, 12000, 50));
                Check.noIndex("slide to" + both, x -> x.slide(wren, 0, pitch, 2));
                Check.noIndex("framesToRung" + both, x -> x.framesToRung(wren, pitch));
            }
            for (int frames : Check.outside(2, 50)) {
                Check.noIndex("slide of wren " + wren + " and frames " + frames, x -> x.slide(wren, 0, 1, frames));
                Check.noIndex("slide, all wrong, of wren " + wren, x -> x.slide(wren, -1, 12001, frames));
            }
        }
    }
}
