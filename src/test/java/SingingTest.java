/** Promises 4 to 6: sing, slide, rest. */
public final class SingingTest {

    public static void main(String[] args) {
        promise4OfAnObjectThatHasSungNothing();
        promise4LeastAndGreatest();
        promise4RungIsKeptWithinTheLeash();
        promise4ChangesAndLeaps();
        promise4NudgeGoesTowardsWhatIsDue();
        promise4WrongInputs();
        promise5OfAnObjectThatHasSungNothing();
        promise5LeastAndGreatest();
        promise5EachPitchIsRoundedDown();
        promise5TheExampleThatFalls();
        promise5EvenlyFromOneToAnother();
        promise5CountsChanges();
        promise5ChangesAreNotLeapsAlone();
        promise5WrongInputs();
        promise6OfAnObjectThatHasSungNothing();
        promise6Rest();
        promise6TheRungsAtTheEnds();
        promise6AfterALoss();
        promise6WrongInputs();
        Check.end();
    }

    private static void promise4OfAnObjectThatHasSungNothing() {
        for (int wren = 0; wren < 4; wren++) {
            TunedWrens x = new TunedWrens();
            Check.same("the first frame of all", x.sing(wren, 6770), 6700);
            for (int other = 0; other < 4; other++) {
                String due = other == wren ? " 6700 -70 1 0 0 1" : " -1 0 0 0 0 0";
                Check.alike("wren " + other + " when " + wren + " sang", Check.ofWren(x, other), due);
            }
        }
    }

    /** "wren: 0 to 3", "pitch: 0 to 12000". */
    private static void promise4LeastAndGreatest() {
        TunedWrens x = Check.inScale(11, 0);
        Check.same("the least of both, up to the lowest rung", x.sing(0, 0), 100);
        Check.same("the greatest of both, down to the highest rung", x.sing(3, 12000), 11900);
        Check.same("the least pitch as it was sung", x.sung(0), 2);
        TunedWrens y = new TunedWrens();
        Check.same("the greatest wren at the bottom", y.sing(3, 0), 0);
        Check.same("in a leap to the top", y.sing(3, 12000), 12000);
        Check.same("in a leap back to the bottom", y.sing(3, 0), 0);
        Check.alike("its changes and leaps", Check.ofWren(y, 3), " 0 0 3 2 2 3");
    }

    private static void promise4RungIsKeptWithinTheLeash() {
        TunedWrens x = new TunedWrens();
        x.setScale(0, 7);
        Check.same("the nearest one", x.sing(0, 6051), 6100);
        Check.same("60 below is kept, though 6000 is nearer", x.sing(0, 6040), 6100);
        Check.same("61 below is not", x.sing(0, 6039), 6000);
        Check.same("60 above is kept", x.sing(0, 6060), 6000);
        Check.same("61 above is not", x.sing(0, 6061), 6100);
        x.setNudging(100, 0, 400);
        Check.same("farther than the leash, but still nearest", x.sing(0, 6149), 6100);
        Check.same("that is no change", x.changesOf(0), 2);
        Check.same("of two the lower one", x.sing(0, 6150), 6100);
        Check.same("and from above", x.sing(0, 6050), 6000);
    }

    private static void promise4ChangesAndLeaps() {
        TunedWrens x = new TunedWrens();
        x.sing(3, 6000);
        Check.same("the first rung is no change", x.changesOf(3), 0);
        Check.same("400 apart is within the glide", x.sing(3, 6390), 6400);
        Check.same("a change", x.changesOf(3), 1);
        Check.same("no leap", x.leapsOf(3), 0);
        Check.same("500 apart is a leap, also down", x.sing(3, 5890), 5890);
        Check.same("a change too", x.changesOf(3), 2);
        Check.same("a leap", x.leapsOf(3), 1);
        Check.same("let go", x.nudgeOf(3), 0);
        Check.same("the next frame is nudged", x.sing(3, 5890), 5900);
        x.setNudging(0, 60, 400);
        Check.same("a leap lets go with the speed 0 too", x.sing(3, 8010), 8010);
        Check.same("to its new rung", x.rungOf(3), 8100);
        Check.same("the first frame of all is no leap", x.leapsOf(0), 0);
        x.setNudging(100, 60, 0);
        Check.same("with a glide of 0 the first frame is none either", x.sing(0, 11990), 12000);
    }

    private static void promise4NudgeGoesTowardsWhatIsDue() {
        TunedWrens x = new TunedWrens();
        x.setNudging(33, 60, 400);
        // -50 * 33 / 100 is -16.5
        Check.same("rounded towards 0 from below", x.sing(0, 6050), 6034);
        Check.same("nudge", x.nudgeOf(0), -16);
        // (40 + 16) * 33 / 100 is 18.48
        Check.same("rounded towards 0 from above", x.sing(0, 5960), 5962);
        x.setNudging(1, 60, 400);
        Check.same("1 up at least", x.sing(0, 5960), 5963);
        Check.same("1 down at least", x.sing(0, 6010), 6012);
        x.setNudging(1, 600, 400);
        Check.same("-102 * 1 / 100 is -1", x.sing(0, 6100), 6101);
        Check.same("-501 * 1 / 100 is -5", x.sing(0, 6500), 6496);
        x.setNudging(0, 600, 400);
        Check.same("none with the speed 0", x.sing(0, 6500), 6496);
        TunedWrens y = new TunedWrens();
        y.setNudging(1, 60, 400);
        Check.same("nothing is due", y.sing(0, 6000), 6000);
        Check.same("no nudge", y.nudgeOf(0), 0);
    }

    private static void promise4WrongInputs() {
        for (int wren : Check.outside(0, 3)) {
            Check.noIndex("sing wren " + wren, x -> x.sing(wren, 6001));
        }
        for (int pitch : Check.outside(0, 12000)) {
            Check.noArgument("sing pitch " + pitch + " of wren 0", x -> x.sing(0, pitch));
            Check.noArgument("sing pitch " + pitch + " of wren 3", x -> x.sing(3, pitch));
        }
    }

    private static void promise5OfAnObjectThatHasSungNothing() {
        for (int wren = 0; wren < 4; wren++) {
            TunedWrens x = new TunedWrens();
            Check.same("the first slide of all", x.slide(wren, 6010, 6210, 2), 1);
            for (int other = 0; other < 4; other++) {
                String due = other == wren ? " 6200 -10 2 1 0 2" : " -1 0 0 0 0 0";
                Check.alike("wren " + other + " when " + wren + " slid", Check.ofWren(x, other), due);
            }
        }
    }

    /** "wren: 0 to 3", "from: 0 to 12000", "to: 0 to 12000", "frames: 2 to 50". */
    private static void promise5LeastAndGreatest() {
        TunedWrens x = new TunedWrens();
        Check.same("up in 50 frames", x.slide(0, 0, 12000, 50), 49);
        Check.same("50 frames", x.framesOf(0), 50);
        Check.same("which end at the top", x.rungOf(0), 12000);
        Check.same("down in 50 frames", x.slide(0, 12000, 0, 50), 49);
        Check.same("which end at the bottom", x.rungOf(0), 0);
        Check.same("up in 2 frames", x.slide(3, 0, 12000, 2), 1);
        Check.same("2 frames", x.framesOf(3), 2);
        Check.same("which end at the top too", x.rungOf(3), 12000);
        Check.same("down in 2 frames", x.slide(3, 12000, 0, 2), 1);
        Check.same("which end at the bottom too", x.rungOf(3), 0);
        Check.same("all the time at the bottom", x.slide(3, 0, 0, 50), 0);
        Check.same("all the time at the top", x.slide(3, 12000, 12000, 50), 1);
        Check.same("twice at the top", x.slide(3, 12000, 12000, 2), 0);
        Check.same("all its frames", x.framesOf(3), 2 + 2 + 50 + 50 + 2);
    }

    /**
     * "each rounded down to a whole number (also where they fall ..)": of slides of less than a semitone each pitch is
     * told by how often it was clean, with a nudge that lets out no other one on a rung.
     */
    private static void promise5EachPitchIsRoundedDown() {
        int[][] slides = {{10, 9}, {9, 10}, {0, 59}, {59, 0}, {6013, 6060}, {6060, 6013}, {12000, 11951},
            {11951, 12000}, {7, 7}, {0, 1}, {1, 0}, {5049, 5051}, {5051, 5049}, {0, 0}, {12000, 12000}};
        for (int[] slide : slides) {
            for (int frames = 2; frames <= 50; frames++) {
                eachPitchOf(slide[0], slide[1], frames);
            }
        }
    }

    private static void eachPitchOf(int from, int to, int frames) {
        int least = Math.min(from, to);
        int most = Math.max(from, to);
        TunedWrens x = Check.inScale(0, 7);
        for (int pitch = least; pitch <= most; pitch++) {
            x.setNudging(100, 600, 12000);
            x.sing(0, pitch);
            x.setNudging(0, 600, 12000);
            int before = x.cleanOf(0);
            x.slide(0, from, to, frames);
            int due = 0;
            for (int frame = 0; frame < frames; frame++) {
                // both parts are 0 at least, so that the quotient is rounded down
                if ((from * (frames - 1 - frame) + to * frame) / (frames - 1) == pitch) {
                    due++;
                }
            }
            String what = "how often " + pitch + " is in " + from + " to " + to + " in " + frames;
            Check.same(what, x.cleanOf(0) - before, due);
        }
    }

    /** "from 10 to 9 in three frames they are 10, 9 and 9". */
    private static void promise5TheExampleThatFalls() {
        TunedWrens x = new TunedWrens();
        x.sing(0, 9);
        x.setNudging(0, 60, 400);
        x.slide(0, 10, 9, 3);
        Check.same("9 before, and twice in the slide", x.cleanOf(0), 3);
        TunedWrens y = new TunedWrens();
        y.sing(0, 10);
        y.setNudging(0, 60, 400);
        y.slide(0, 10, 9, 3);
        Check.same("10 before, and once in the slide", y.cleanOf(0), 2);
        TunedWrens z = new TunedWrens();
        // a semitone begins at 50, so that what sung counts tells these
        z.slide(0, 150, 149, 3);
        Check.same("150, then 149 twice: the first is semitone 2", z.sung(2), 1);
        Check.same("150, then 149 twice: the others are semitone 1", z.sung(1), 2);
        z.slide(1, 549, 550, 3);
        Check.same("549 twice, then 550: semitone 5", z.sung(5), 2);
        Check.same("549 twice, then 550: semitone 6", z.sung(6), 1);
    }

    /** "as many frames, one after the other, whose pitches go evenly": the same as to sing them. */
    private static void promise5EvenlyFromOneToAnother() {
        int[] ends = {0, 1, 777, 5999, 6000, 6001, 8765, 11999, 12000};
        for (int from : ends) {
            for (int to : ends) {
                for (int frames : new int[] {2, 3, 4, 7, 24, 49, 50}) {
                    slideAndSing(from, to, frames);
                }
            }
        }
    }

    private static void slideAndSing(int from, int to, int frames) {
        TunedWrens x = Check.nudging(40, 60, 700);
        TunedWrens y = Check.nudging(40, 60, 700);
        for (int frame = 0; frame < frames; frame++) {
            y.sing(2, (from * (frames - 1 - frame) + to * frame) / (frames - 1));
        }
        String what = "slide from " + from + " to " + to + " in " + frames;
        Check.same("changes of " + what, x.slide(2, from, to, frames), y.changesOf(2));
        Check.alike(what, Check.ofWren(x, 2), Check.ofWren(y, 2));
        for (int semitone = 0; semitone < 12; semitone++) {
            Check.same("semitone " + semitone + " of " + what, x.sung(semitone), y.sung(semitone));
        }
    }

    /** "Returns how many changes there are in them". */
    private static void promise5CountsChanges() {
        TunedWrens x = new TunedWrens();
        Check.same("none within the leash", x.slide(0, 6000, 6060, 5), 0);
        Check.same("6000 to 6200 to 6400", x.slide(0, 6000, 6400, 3), 2);
        Check.same("only those of this slide", x.slide(0, 6400, 6500, 2), 1);
        Check.same("all of them", x.changesOf(0), 3);
        Check.same("the first frame changes too", x.slide(0, 7200, 7200, 2), 1);
        Check.same("not those of other wrens", x.slide(1, 6000, 6000, 2), 0);
        Check.same("a first rung is none, the next one is", x.slide(2, 6000, 6200, 2), 1);
        x.rest(2);
        Check.same("after a rest too", x.slide(2, 7200, 7400, 2), 1);
        TunedWrens y = Check.nudging(100, 0, 12000);
        Check.same("each frame but the first one", y.slide(0, 1000, 5900, 50), 49);
        Check.same("each frame", y.slide(0, 10900, 6000, 50), 50);
        Check.same("all of both", y.changesOf(0), 99);
    }

    private static void promise5ChangesAreNotLeapsAlone() {
        TunedWrens x = new TunedWrens();
        Check.same("a leap and a change", x.slide(1, 6000, 6010, 2) + x.slide(1, 7200, 7400, 2), 2);
        Check.same("one of them is a leap", x.leapsOf(1), 1);
        Check.same("and back, leaps alone", x.slide(1, 6000, 7200, 2), 2);
        Check.same("three leaps", x.leapsOf(1), 3);
    }

    private static void promise5WrongInputs() {
        for (int wren : Check.outside(0, 3)) {
            Check.noIndex("slide wren " + wren, x -> x.slide(wren, 0, 777, 9));
        }
        for (int wren = 0; wren < 4; wren += 3) {
            int who = wren;
            for (int pitch : Check.outside(0, 12000)) {
                Check.noArgument("slide from " + pitch, x -> x.slide(who, pitch, 100, 2));
                Check.noArgument("slide to " + pitch, x -> x.slide(who, 101, pitch, 2));
                Check.noArgument("slide from and to " + pitch, x -> x.slide(who, pitch, pitch, 50));
            }
            for (int frames : Check.outside(2, 50)) {
                Check.noArgument("slide frames " + frames, x -> x.slide(who, 100, 200, frames));
                Check.noArgument("slide all, frames " + frames, x -> x.slide(who, -1, 12001, frames));
            }
            Check.noArgument("slide frames 0", x -> x.slide(who, 100, 100, 0));
            Check.noArgument("slide frames -1", x -> x.slide(who, 100, 100, -1));
        }
    }

    private static void promise6OfAnObjectThatHasSungNothing() {
        TunedWrens x = new TunedWrens();
        for (int wren = 0; wren < 4; wren++) {
            Check.same("no rung before, wren " + wren, x.rest(wren), -1);
            Check.same("nor after, wren " + wren, x.rest(wren), -1);
        }
        Check.alike("a rest of what has not sung", Check.state(x), Check.state(new TunedWrens()));
    }

    private static void promise6Rest() {
        TunedWrens x = new TunedWrens();
        x.sing(0, 6010);
        x.sing(1, 7010);
        x.sing(3, 6520);
        Check.same("the rung before", x.rest(0), 6000);
        Check.same("no rung", x.rungOf(0), -1);
        Check.same("no nudge", x.nudgeOf(0), 0);
        Check.same("the others sing on", x.rungOf(1), 7100);
        Check.same("with their nudges", x.nudgeOf(1), 90);
        Check.same("no rest is counted", x.framesOf(0), 1);
        Check.same("what was clean stays so", x.cleanOf(0), 1);
        Check.same("again", x.rest(0), -1);
        Check.same("the last wren", x.rest(3), 6500);
        Check.same("no rung either", x.rungOf(3), -1);
        Check.same("no nudge either", x.nudgeOf(3), 0);
        x.sing(0, 9000);
        Check.same("the rung after a rest is no change", x.changesOf(0), 0);
        Check.same("nor a leap", x.leapsOf(0), 0);
        x.setNudging(0, 60, 400);
        x.rest(1);
        Check.same("no nudge goes on", x.sing(1, 7010), 7010);
        TunedWrens y = new TunedWrens();
        y.slide(2, 6000, 7200, 2);
        y.rest(2);
        Check.alike("changes and leaps stay counted", Check.ofWren(y, 2), " -1 0 2 1 1 2");
    }

    /** "Returns the rung that it had; -1 if it had none": 0 is one, and 12000. */
    private static void promise6TheRungsAtTheEnds() {
        TunedWrens x = new TunedWrens();
        x.sing(2, 10);
        Check.same("the rung 0 is a rung", x.rest(2), 0);
        Check.same("then none", x.rest(2), -1);
        x.sing(2, 11990);
        Check.same("the rung 12000 is a rung", x.rest(2), 12000);
        Check.same("then none again", x.rest(2), -1);
    }

    private static void promise6AfterALoss() {
        TunedWrens x = new TunedWrens();
        x.sing(3, 7130);
        Check.same("7100 is lost", x.setScale(1, 0), 1);
        Check.same("the nudge is not", x.nudgeOf(3), -30);
        Check.same("a lost rung is none", x.rest(3), -1);
        Check.same("but the nudge goes as well", x.nudgeOf(3), 0);
    }

    private static void promise6WrongInputs() {
        for (int wren : Check.outside(0, 3)) {
            Check.noIndex("rest " + wren, x -> x.rest(wren));
        }
    }
}
