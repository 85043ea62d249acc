/** An aviary whose wrens are nudged onto the rungs of a scale while they sing. */
public final class TunedWrens {

    private static final int WRENS = 4;
    private static final int TOP_PITCH = 12000;
    private static final int SEMITONE = 100;
    private static final int OCTAVE = 1200;
    private static final int SEMITONES = 12;
    private static final int MODES = 8;
    private static final int TWELVE_STEP_MODE = 7;
    private static final int MAX_SPEED = 100;
    private static final int MAX_LEASH = 600;
    private static final int MAX_GLIDE = 12000;
    private static final int MIN_SLIDE = 2;
    private static final int MAX_SLIDE = 50;
    private static final int MOST_FRAMES = 999;
    private static final int NONE = -1;

    /** The seven steps of the mode 0, in semitones above the key. */
    private static final int[] STEPS = {0, 2, 4, 5, 7, 9, 11};

    private final int[] rungOfWren = {NONE, NONE, NONE, NONE};
    private final int[] nudgeOfWren = new int[WRENS];
    private final int[] framesOfWren = new int[WRENS];
    private final int[] changesOfWren = new int[WRENS];
    private final int[] leapsOfWren = new int[WRENS];
    private final int[] cleanOfWren = new int[WRENS];
    private final int[] framesOfSemitone = new int[SEMITONES];

    private int scaleKey = 0;
    private int scaleMode = 0;
    private int nudgeSpeed = 100;
    private int rungLeash = 60;
    private int leapGlide = 400;

    public TunedWrens() {
    }

    // ---- settings

    public int setScale(int key, int mode) throws IllegalArgumentException {
        requireRange(key, 0, SEMITONES - 1);
        requireRange(mode, 0, MODES - 1);
        scaleKey = key;
        scaleMode = mode;
        int lost = 0;
        for (int wren = 0; wren < WRENS; wren++) {
            if (rungOfWren[wren] != NONE && !isRung(rungOfWren[wren])) {
                rungOfWren[wren] = NONE;
                lost++;
            }
        }
        return lost;
    }

    public void setNudging(int speed, int leash, int glide) throws IllegalArgumentException {
        requireRange(speed, 0, MAX_SPEED);
        requireRange(leash, 0, MAX_LEASH);
        requireRange(glide, 0, MAX_GLIDE);
        nudgeSpeed = speed;
        rungLeash = leash;
        leapGlide = glide;
    }

    // ---- singing

    public int sing(int wren, int pitch) throws IndexOutOfBoundsException, IllegalArgumentException {
        requireWren(wren);
        requirePitch(pitch);
        return singFrame(wren, pitch);
    }

    public int slide(int wren, int from, int to, int frames)
            throws IndexOutOfBoundsException, IllegalArgumentException {
        requireWren(wren);
        requirePitch(from);
        requirePitch(to);
        requireRange(frames, MIN_SLIDE, MAX_SLIDE);
        int before = changesOfWren[wren];
        for (int frame = 0; frame < frames; frame++) {
            // floorDiv, as a falling slide is rounded down too, not towards its start
            singFrame(wren, from + Math.floorDiv((to - from) * frame, frames - 1));
        }
        return changesOfWren[wren] - before;
    }

    public int rest(int wren) throws IndexOutOfBoundsException {
        requireWren(wren);
        int rung = rungOfWren[wren];
        rungOfWren[wren] = NONE;
        nudgeOfWren[wren] = 0;
        return rung;
    }

    // ---- the scale

    public int rungs() {
        int count = 0;
        for (int pitch = 0; pitch <= TOP_PITCH; pitch += SEMITONE) {
            if (isRung(pitch)) {
                count++;
            }
        }
        return count;
    }

    public int nearest(int pitch) throws IllegalArgumentException {
        requirePitch(pitch);
        return nearestRung(pitch);
    }

    public int rung(int number) throws IndexOutOfBoundsException {
        int lower = 0;
        for (int pitch = 0; pitch <= TOP_PITCH; pitch += SEMITONE) {
            if (isRung(pitch)) {
                if (lower == number) {
                    return pitch;
                }
                lower++;
            }
        }
        throw new IndexOutOfBoundsException("no such rung");
    }

    public int stepOf(int pitch) throws IllegalArgumentException {
        requirePitch(pitch);
        return stepAt(pitch);
    }

    // ---- wrens

    public int rungOf(int wren) throws IndexOutOfBoundsException {
        requireWren(wren);
        return rungOfWren[wren];
    }

    public int nudgeOf(int wren) throws IndexOutOfBoundsException {
        requireWren(wren);
        return nudgeOfWren[wren];
    }

    public int framesOf(int wren) throws IndexOutOfBoundsException {
        requireWren(wren);
        return framesOfWren[wren];
    }

    public int changesOf(int wren) throws IndexOutOfBoundsException {
        requireWren(wren);
        return changesOfWren[wren];
    }

    public int leapsOf(int wren) throws IndexOutOfBoundsException {
        requireWren(wren);
        return leapsOfWren[wren];
    }

    public int cleanOf(int wren) throws IndexOutOfBoundsException {
        requireWren(wren);
        return cleanOfWren[wren];
    }

    public int framesToRung(int wren, int pitch) throws IndexOutOfBoundsException, IllegalArgumentException {
        requireWren(wren);
        requirePitch(pitch);
        // One pitch settles the rung in its first frame: only the nudge still moves after that.
        int rung = nextRung(rungOfWren[wren], pitch);
        int nudge = nextNudge(wren, rung, pitch);
        for (int frames = 1; frames <= MOST_FRAMES; frames++) {
            if (pitch + nudge == rung) {
                return frames;
            }
            nudge = nudgeTowards(nudge, rung - pitch);
        }
        return NONE;
    }

    // ---- what was sung

    public int sung(int semitone) throws IndexOutOfBoundsException {
        if (semitone < 0 || semitone >= SEMITONES) {
            throw new IndexOutOfBoundsException("no such semitone");
        }
        return framesOfSemitone[semitone];
    }

    public int bestKey(int mode) throws IllegalArgumentException {
        requireRange(mode, 0, MODES - 1);
        int best = 0;
        int most = framesWithin(0, mode);
        for (int key = 1; key < SEMITONES; key++) {
            int frames = framesWithin(key, mode);
            if (frames > most) {
                best = key;
                most = frames;
            }
        }
        return best;
    }

    public int within(int key, int mode) throws IllegalArgumentException {
        requireRange(key, 0, SEMITONES - 1);
        requireRange(mode, 0, MODES - 1);
        return framesWithin(key, mode);
    }

    public int inOctaves() {
        int pairs = 0;
        for (int wren = 0; wren < WRENS; wren++) {
            for (int other = wren + 1; other < WRENS; other++) {
                if (areInOctaves(rungOfWren[wren], rungOfWren[other])) {
                    pairs++;
                }
            }
        }
        return pairs;
    }

    private static void requireWren(int wren) {
        if (wren < 0 || wren >= WRENS) {
            throw new IndexOutOfBoundsException("no such wren");
        }
    }

    private static void requirePitch(int pitch) {
        requireRange(pitch, 0, TOP_PITCH);
    }

    private static void requireRange(int value, int least, int most) {
        if (value < least || value > most) {
            throw new IllegalArgumentException("out of range");
        }
    }

    /** Lets a wren sing a frame, counts it, and answers the pitch that is let out. */
    private int singFrame(int wren, int pitch) {
        int before = rungOfWren[wren];
        int rung = nextRung(before, pitch);
        int nudge = nextNudge(wren, rung, pitch);
        int out = pitch + nudge;
        rungOfWren[wren] = rung;
        nudgeOfWren[wren] = nudge;
        framesOfWren[wren]++;
        if (isChange(before, rung)) {
            changesOfWren[wren]++;
        }
        if (isLeap(before, rung)) {
            leapsOfWren[wren]++;
        }
        if (isRung(out)) {
            cleanOfWren[wren]++;
        }
        framesOfSemitone[nearestSemitone(pitch)]++;
        return out;
    }

    /** The rung that a wren on a rung, or on none, has once it sings a pitch. */
    private int nextRung(int rung, int pitch) {
        if (rung != NONE && Math.abs(pitch - rung) <= rungLeash) {
            return rung;
        }
        return nearestRung(pitch);
    }

    /** The nudge that a wren has once it sings a pitch that brings it to a rung. */
    private int nextNudge(int wren, int rung, int pitch) {
        if (isLeap(rungOfWren[wren], rung)) {
            return 0;
        }
        return nudgeTowards(nudgeOfWren[wren], rung - pitch);
    }

    private int nudgeTowards(int nudge, int due) {
        int missing = due - nudge;
        int move = missing * nudgeSpeed / 100;
        if (move == 0 && nudgeSpeed != 0) {
            // so that a slow nudge arrives, rather than stopping just short
            move = Math.max(-1, Math.min(missing, 1));
        }
        return nudge + move;
    }

    private static boolean isChange(int before, int rung) {
        return before != NONE && before != rung;
    }

    private boolean isLeap(int before, int rung) {
        return isChange(before, rung) && Math.abs(rung - before) > leapGlide;
    }

    private boolean isRung(int pitch) {
        return stepAt(pitch) != NONE;
    }

    /** Which step of the mode a pitch, perhaps below 0 or above the top, is as a rung; NONE if it is no rung. */
    private int stepAt(int pitch) {
        if (pitch < 0 || pitch > TOP_PITCH || pitch % SEMITONE != 0) {
            return NONE;
        }
        return stepAbove(pitch / SEMITONE - scaleKey, scaleMode);
    }

    /** Which step of a mode lies so many semitones above its key, octaves aside; NONE if none does. */
    private static int stepAbove(int semitones, int mode) {
        int above = Math.floorMod(semitones, SEMITONES);
        if (mode == TWELVE_STEP_MODE) {
            return above;
        }
        int first = STEPS[Math.floorMod(mode, STEPS.length)];
        for (int step = 0; step < STEPS.length; step++) {
            int semitone = STEPS[Math.floorMod(mode + step, STEPS.length)];
            if (Math.floorMod(semitone - first, SEMITONES) == above) {
                return step;
            }
        }
        return NONE;
    }

    private int nearestRung(int pitch) {
        int below = rungNotAbove(pitch);
        int above = rungAbove(pitch);
        if (below == NONE) {
            return above;
        }
        if (above == NONE || pitch - below <= above - pitch) {
            return below;
        }
        return above;
    }

    private int rungNotAbove(int pitch) {
        for (int rung = pitch - pitch % SEMITONE; rung >= 0; rung -= SEMITONE) {
            if (stepAt(rung) != NONE) {
                return rung;
            }
        }
        return NONE;
    }

    private int rungAbove(int pitch) {
        for (int rung = pitch - pitch % SEMITONE + SEMITONE; rung <= TOP_PITCH; rung += SEMITONE) {
            if (stepAt(rung) != NONE) {
                return rung;
            }
        }
        return NONE;
    }

    /** The semitone, of any octave, as which a frame of a pitch is counted. */
    private static int nearestSemitone(int pitch) {
        return Math.floorMod((pitch + SEMITONE / 2) / SEMITONE, SEMITONES);
    }

    private int framesWithin(int key, int mode) {
        int frames = 0;
        for (int semitone = 0; semitone < SEMITONES; semitone++) {
            if (stepAbove(semitone - key, mode) != NONE) {
                frames += framesOfSemitone[semitone];
            }
        }
        return frames;
    }

    private static boolean areInOctaves(int rung, int other) {
        return rung != NONE && other != NONE && (rung - other) % OCTAVE == 0;
    }
}
