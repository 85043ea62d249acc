/** What the tests of the project share: comparing answers, catching throws, and telling the whole state. */
final class Check {

    interface Call {
        void run();
    }

    private static int wrong = 0;

    private Check() {
    }

    static void same(String what, long got, long due) {
        if (got != due) {
            tell(what + " answered " + got + ", due is " + due);
        }
    }

    static void holds(String what, boolean holds) {
        if (!holds) {
            tell(what + " does not hold");
        }
    }

    static void tell(String fault) {
        wrong++;
        System.out.println(fault);
    }

    /** The call throws just an IndexOutOfBoundsException, no class below it, and changes nothing. */
    static void noIndex(String what, TunedWrens wrens, Call call) {
        refused(what, wrens, call, IndexOutOfBoundsException.class);
    }

    /** The call throws just an IllegalArgumentException, no class below it, and changes nothing. */
    static void noArgument(String what, TunedWrens wrens, Call call) {
        refused(what, wrens, call, IllegalArgumentException.class);
    }

    private static void refused(String what, TunedWrens wrens, Call call, Class<?> due) {
        String before = state(wrens);
        Class<?> got = null;
        try {
            call.run();
        } catch (RuntimeException e) {
            got = e.getClass();
        }
        if (got != due) {
            tell(what + " threw " + got + ", due is " + due);
        }
        String after = state(wrens);
        if (!before.equals(after)) {
            tell(what + " changed the object from\n  " + before + "\n  to\n  " + after);
        }
    }

    /** All that an object can be asked for without a change, one text. */
    static String state(TunedWrens wrens) {
        StringBuilder all = new StringBuilder();
        all.append("rungs ").append(wrens.rungs());
        all.append(" octaves ").append(wrens.inOctaves());
        all.append(" steps");
        for (int semitone = 0; semitone < 12; semitone++) {
            all.append(' ').append(wrens.stepOf(4800 + semitone * 100));
        }
        all.append(" sung");
        for (int semitone = 0; semitone < 12; semitone++) {
            all.append(' ').append(wrens.sung(semitone));
        }
        for (int wren = 0; wren < 4; wren++) {
            all.append(" wren ").append(wren).append(':');
            all.append(' ').append(wrens.rungOf(wren)).append(' ').append(wrens.nudgeOf(wren));
            all.append(' ').append(wrens.framesOf(wren)).append(' ').append(wrens.changesOf(wren));
            all.append(' ').append(wrens.leapsOf(wren)).append(' ').append(wrens.cleanOf(wren));
            // these tell the speed, the leash and the glide too
            for (int pitch = 0; pitch <= 12000; pitch += 97) {
                all.append(' ').append(wrens.framesToRung(wren, pitch));
            }
        }
        return all.toString();
    }

    /** An object of which every part is other than at first. */
    static TunedWrens sungObject() {
        TunedWrens x = new TunedWrens();
        x.setScale(2, 5);
        x.setNudging(30, 80, 250);
        x.slide(0, 3000, 4100, 20);
        x.slide(1, 9000, 7777, 7);
        x.sing(2, 12000);
        x.sing(2, 11000);
        return x;
    }

    static void end() {
        if (wrong != 0) {
            System.out.println(wrong + " faults");
            System.exit(1);
        }
    }
}
