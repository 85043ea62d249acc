/**
 * What the tests of the project share: comparing answers, and refused calls. No object is asked more than the 512
 * calls for which the document holds: where more is to be asked, the same object is made again.
 */
final class Check {

    interface Make {
        TunedWrens make();
    }

    interface Call {
        void on(TunedWrens wrens);
    }

    static final int MIN = Integer.MIN_VALUE;
    static final int MAX = Integer.MAX_VALUE;

    private static int wrong = 0;

    private Check() {
    }

    static void same(String what, long got, long due) {
        if (got != due) {
            tell(what + " answered " + got + ", due is " + due);
        }
    }

    static void holds(String what, boolean holds) {
        if (!holds) {
            tell(what + " does not hold");
        }
    }

    static void tell(String fault) {
        wrong++;
        System.out.println(fault);
    }

    /** The values of an argument that is refused below one bound and above another one. */
    static int[] outside(int least, int most) {
        return new int[] {least - 1, most + 1, MIN, MIN + 1, MAX - 1, MAX};
    }

    /** The call throws just an IndexOutOfBoundsException and changes nothing, of a new object and of one that sang. */
    static void noIndex(String what, Call call) {
        noIndex(what + ", new", TunedWrens::new, call);
        noIndex(what + ", sung", Check::sungObject, call);
    }

    static void noIndex(String what, Make make, Call call) {
        refused(what, make, call, IndexOutOfBoundsException.class);
    }

    /** The call throws just an IllegalArgumentException and changes nothing, of a new object and of one that sang. */
    static void noArgument(String what, Call call) {
        noArgument(what + ", new", TunedWrens::new, call);
        noArgument(what + ", sung", Check::sungObject, call);
    }

    static void noArgument(String what, Make make, Call call) {
        refused(what, make, call, IllegalArgumentException.class);
    }

    private static void refused(String what, Make make, Call call, Class<?> due) {
        TunedWrens asked = make.make();
        TunedWrens singing = make.make();
        Class<?> got = thrown(asked, call);
        if (got != due) {
            tell(what + " threw " + got + ", due is " + due);
        }
        thrown(singing, call);
        alike(what + " has changed the object", state(asked), state(make.make()));
        alike(what + " has changed what comes after", goneOn(singing), goneOn(make.make()));
    }

    /** The call, of which nothing is asked but that, changes nothing. */
    static void changesNothing(String what, Call call) {
        TunedWrens asked = sungObject();
        TunedWrens singing = sungObject();
        call.on(asked);
        call.on(singing);
        alike(what + " has changed the object", state(asked), state(sungObject()));
        alike(what + " has changed what comes after", goneOn(singing), goneOn(sungObject()));
    }

    static void alike(String what, String got, String due) {
        if (!got.equals(due)) {
            tell(what + ":\n  " + got + "\n  due is\n  " + due);
        }
    }

    private static Class<?> thrown(TunedWrens wrens, Call call) {
        try {
            call.on(wrens);
        } catch (RuntimeException e) {
            return e.getClass();
        }
        return null;
    }

    /** All that an object can be asked for without a change, one text; some 350 calls. */
    static String state(TunedWrens wrens) {
        StringBuilder all = new StringBuilder();
        all.append("rungs ").append(wrens.rungs());
        all.append(" octaves ").append(wrens.inOctaves());
        all.append(" steps");
        for (int semitone = 0; semitone < 12; semitone++) {
            all.append(' ').append(wrens.stepOf(4800 + semitone * 100));
        }
        all.append(" sung");
        for (int semitone = 0; semitone < 12; semitone++) {
            all.append(' ').append(wrens.sung(semitone));
        }
        all.append(" keys");
        for (int mode = 0; mode < 8; mode++) {
            all.append(' ').append(wrens.bestKey(mode));
        }
        for (int wren = 0; wren < 4; wren++) {
            all.append(" wren ").append(wren).append(':').append(ofWren(wrens, wren));
            // these tell the speed, the leash and the glide too
            for (int pitch = wren * 10; pitch <= 12000; pitch += 173) {
                all.append(' ').append(wrens.framesToRung(wren, pitch));
            }
        }
        return all.toString();
    }

    /** All that is told of a wren, one text; six calls. */
    static String ofWren(TunedWrens wrens, int wren) {
        StringBuilder all = new StringBuilder();
        all.append(' ').append(wrens.rungOf(wren)).append(' ').append(wrens.nudgeOf(wren));
        all.append(' ').append(wrens.framesOf(wren)).append(' ').append(wrens.changesOf(wren));
        all.append(' ').append(wrens.leapsOf(wren)).append(' ').append(wrens.cleanOf(wren));
        return all.toString();
    }

    /** What an object answers that goes on singing, one text, which tells each setting to the cent; some 300 calls. */
    private static String goneOn(TunedWrens wrens) {
        StringBuilder all = new StringBuilder();
        for (int wren = 0; wren < 4; wren++) {
            all.append(' ').append(wrens.sing(wren, 5430 + wren));
        }
        all.append(" lost ").append(wrens.setScale(4, 7)).append(" leash");
        for (int away = 50; away <= 130; away++) {
            all.append(' ').append(wrens.sing(3, 6000)).append(' ').append(wrens.sing(3, 6000 + away));
        }
        all.append(" glide");
        for (int semitones = 1; semitones <= 20; semitones++) {
            all.append(' ').append(wrens.sing(2, 6000)).append(' ').append(wrens.sing(2, 6010 + semitones * 100));
        }
        for (int wren = 0; wren < 4; wren++) {
            all.append(" slide ").append(wrens.slide(wren, 3000, 3333, 30)).append(ofWren(wrens, wren));
            all.append(" rest ").append(wrens.rest(wren));
        }
        for (int semitone = 0; semitone < 12; semitone++) {
            all.append(' ').append(wrens.sung(semitone));
        }
        return all.toString();
    }

    /** An object of which every part is other than at first; a wren has lost its rung, but not its nudge. */
    static TunedWrens sungObject() {
        TunedWrens x = new TunedWrens();
        x.sing(3, 1130);
        x.setScale(2, 5);
        x.setNudging(30, 80, 250);
        x.slide(0, 3000, 4100, 20);
        x.slide(1, 9000, 7777, 7);
        x.sing(2, 12000);
        x.sing(2, 11000);
        return x;
    }

    /** A new object in a scale. */
    static TunedWrens inScale(int key, int mode) {
        TunedWrens x = new TunedWrens();
        x.setScale(key, mode);
        return x;
    }

    /** A new object with a nudging, in the scale of all semitones. */
    static TunedWrens nudging(int speed, int leash, int glide) {
        TunedWrens x = inScale(0, 7);
        x.setNudging(speed, leash, glide);
        return x;
    }

    static void end() {
        if (wrong != 0) {
            System.out.println(wrong + " faults");
            System.exit(1);
        }
    }
}
