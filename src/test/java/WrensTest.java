/** Promises 11 to 17: rungOf, nudgeOf, framesOf, changesOf, leapsOf, cleanOf, framesToRung. */
public final class WrensTest {

    private static final int MIN = Integer.MIN_VALUE;
    private static final int MAX = Integer.MAX_VALUE;

    public static void main(String[] args) {
        promise11To15();
        promise16Clean();
        promise11To16WrongInputs();
        promise17FramesToRung();
        promise17FirstFrame();
        promise17Limit();
        promise17ChangesNothing();
        promise17WrongInputs();
        Check.end();
    }

    private static void promise11To15() {
        TunedWrens x = new TunedWrens();
        x.sing(1, 6030);
        Check.same("rungOf", x.rungOf(1), 6000);
        Check.same("nudgeOf below 0", x.nudgeOf(1), -30);
        x.sing(1, 6170);
        Check.same("rungOf after a change", x.rungOf(1), 6200);
        Check.same("nudgeOf above 0", x.nudgeOf(1), 30);
        x.sing(1, 9000);
        Check.same("nudgeOf after a leap", x.nudgeOf(1), 0);
        x.slide(1, 9000, 9100, 11);
        Check.same("framesOf", x.framesOf(1), 14);
        Check.same("changesOf", x.changesOf(1), 3);
        Check.same("leapsOf", x.leapsOf(1), 1);
        for (int other : new int[] {0, 2, 3}) {
            Check.same("rungOf another", x.rungOf(other), -1);
            Check.same("nudgeOf another", x.nudgeOf(other), 0);
            Check.same("framesOf another", x.framesOf(other), 0);
            Check.same("changesOf another", x.changesOf(other), 0);
            Check.same("leapsOf another", x.leapsOf(other), 0);
            Check.same("cleanOf another", x.cleanOf(other), 0);
        }
        x.rest(1);
        x.setScale(4, 4);
        x.setNudging(0, 0, 0);
        Check.same("frames stay counted", x.framesOf(1), 14);
        Check.same("changes stay counted", x.changesOf(1), 3);
        Check.same("leaps stay counted", x.leapsOf(1), 1);
    }

    private static void promise16Clean() {
        TunedWrens x = new TunedWrens();
        x.setNudging(0, 60, 400);
        x.sing(0, 6000);
        Check.same("just on its rung", x.cleanOf(0), 1);
        x.sing(0, 6001);
        Check.same("1 beside it", x.cleanOf(0), 1);
        x.sing(0, 6100);
        Check.same("on a semitone that is no rung", x.cleanOf(0), 1);
        x.setNudging(0, 600, 400);
        x.sing(0, 6200);
        Check.same("on another rung than its own", x.cleanOf(0), 2);
        Check.same("which it keeps", x.rungOf(0), 6000);
        x.setScale(6, 0);
        Check.same("what was clean stays so in another scale", x.cleanOf(0), 2);
        x.sing(0, 6200);
        Check.same("6200 is no rung of this scale", x.cleanOf(0), 2);
        x.sing(0, 6600);
        Check.same("6600 is one", x.cleanOf(0), 3);
        TunedWrens y = new TunedWrens();
        y.sing(0, 1000);
        y.sing(0, 7200);
        Check.same("in a leap too", y.cleanOf(0), 2);
    }

    private static void promise11To16WrongInputs() {
        TunedWrens x = Check.sungObject();
        for (int wren : new int[] {-1, 4, MIN, MAX}) {
            Check.noIndex("rungOf " + wren, x, () -> x.rungOf(wren));
            Check.noIndex("nudgeOf " + wren, x, () -> x.nudgeOf(wren));
            Check.noIndex("framesOf " + wren, x, () -> x.framesOf(wren));
            Check.noIndex("changesOf " + wren, x, () -> x.changesOf(wren));
            Check.noIndex("leapsOf " + wren, x, () -> x.leapsOf(wren));
            Check.noIndex("cleanOf " + wren, x, () -> x.cleanOf(wren));
        }
    }

    private static void promise17FramesToRung() {
        TunedWrens x = new TunedWrens();
        Check.same("at the speed 100 in one", x.framesToRung(0, 6049), 1);
        x.setNudging(50, 60, 400);
        // what is missing: 49, 25, 13, 7, 4, 2, 1, 0
        Check.same("at half the speed", x.framesToRung(0, 6049), 7);
        x.sing(0, 6049);
        Check.same("one was sung", x.framesToRung(0, 6049), 6);
        for (int frame = 0; frame < 5; frame++) {
            Check.holds("not yet there", x.sing(0, 6049) != 6000);
        }
        Check.same("the last one", x.framesToRung(0, 6049), 1);
        Check.same("is clean", x.sing(0, 6049), 6000);
        Check.same("and so is each further one", x.framesToRung(0, 6049), 1);
        x.setNudging(0, 60, 400);
        Check.same("never without a speed", x.framesToRung(0, 6050), -1);
        Check.same("but at once where nothing is missing", x.framesToRung(0, 6049), 1);
        x.setNudging(1, 600, 400);
        Check.same("one cent a frame", x.framesToRung(0, 6000), 49);
    }

    private static void promise17FirstFrame() {
        TunedWrens x = new TunedWrens();
        x.sing(0, 6000);
        Check.same("a leap takes one more", x.framesToRung(0, 7190), 2);
        Check.same("but not to a pitch just on its rung", x.framesToRung(0, 7200), 1);
        x.sing(0, 6030);
        Check.same("a leap lets the nudge go", x.framesToRung(0, 7230), 2);
        Check.same("no leap without a rung", x.framesToRung(1, 7190), 1);
        x.setNudging(100, 60, 0);
        Check.same("a change by 200 is a leap too", x.framesToRung(0, 6190), 2);
        x.setNudging(100, 600, 400);
        Check.same("the rung that is kept", x.framesToRung(0, 6600), 1);
        x.setNudging(0, 600, 400);
        Check.same("a rung, but not its own", x.framesToRung(0, 6230), -1);
        Check.same("30 above its own", x.framesToRung(0, 6030), 1);
    }

    private static void promise17Limit() {
        TunedWrens x = new TunedWrens();
        x.setNudging(100, 600, 12000);
        x.sing(0, 6000);
        x.sing(0, 6600);
        x.setNudging(1, 600, 12000);
        x.sing(0, 6600);
        int due = 0;
        for (int missing = 1200; missing != 0; missing -= Math.max(1, missing / 100)) {
            due++;
        }
        Check.same("from -600 to 600", x.framesToRung(0, 5400), due);
        Check.holds("which stays within 999", due < 999);
        x.setNudging(0, 600, 12000);
        Check.same("999 would not do", x.framesToRung(0, 5400), -1);
    }

    private static void promise17ChangesNothing() {
        TunedWrens x = Check.sungObject();
        String before = Check.state(x);
        for (int wren = 0; wren < 4; wren++) {
            for (int pitch = 0; pitch <= 12000; pitch += 250) {
                x.framesToRung(wren, pitch);
            }
        }
        Check.holds("framesToRung changes nothing", before.equals(Check.state(x)));
    }

    private static void promise17WrongInputs() {
        TunedWrens x = Check.sungObject();
        for (int wren : new int[] {-1, 4, MIN, MAX}) {
            Check.noIndex("framesToRung wren " + wren, x, () -> x.framesToRung(wren, 6000));
            Check.noIndex("framesToRung both wrong, wren " + wren, x, () -> x.framesToRung(wren, 12001));
        }
        for (int pitch : new int[] {-1, 12001, MIN, MAX}) {
            Check.noArgument("framesToRung pitch " + pitch, x, () -> x.framesToRung(2, pitch));
        }
    }
}
