import java.util.ArrayList;
import java.util.List;
import java.util.Random;
import java.util.TreeSet;

/**
 * Long runs of mixed calls, each answer against a second program, which is written from the document in the
 * slowest and most literal way: the rungs are a set, what was sung is a list, and to look ahead is to sing.
 */
public final class ModelTest {

    private static final int RUNS = 400;
    private static final int CALLS = 512;
    private static final int REFUSED_INDEX = Integer.MIN_VALUE + 1;
    private static final int REFUSED_ARGUMENT = Integer.MIN_VALUE + 2;

    private static final class Wren {
        Integer rung = null;
        int nudge = 0;
        int frames = 0;
        int changes = 0;
        int leaps = 0;
        int clean = 0;

        Wren copy() {
            Wren copy = new Wren();
            copy.rung = rung;
            copy.nudge = nudge;
            return copy;
        }
    }

    private static final class Model {
        TreeSet<Integer> ladder = ladder(0, 0);
        int key = 0;
        int mode = 0;
        int speed = 100;
        int leash = 60;
        int glide = 400;
        final Wren[] wrens = {new Wren(), new Wren(), new Wren(), new Wren()};
        final List<Integer> sung = new ArrayList<>();

        static List<Integer> steps(int mode) {
            List<Integer> steps = new ArrayList<>();
            if (mode == 7) {
                for (int step = 0; step < 12; step++) {
                    steps.add(step);
                }
                return steps;
            }
            int[] twoOctaves = {0, 2, 4, 5, 7, 9, 11, 12, 14, 16, 17, 19, 21, 23};
            for (int step = mode; step < mode + 7; step++) {
                steps.add(twoOctaves[step] - twoOctaves[mode]);
            }
            return steps;
        }

        static TreeSet<Integer> ladder(int key, int mode) {
            TreeSet<Integer> ladder = new TreeSet<>();
            for (int octave = -3; octave <= 12; octave++) {
                for (int step : steps(mode)) {
                    int pitch = 100 * (key + step + 12 * octave);
                    if (pitch >= 0 && pitch <= 12000) {
                        ladder.add(pitch);
                    }
                }
            }
            return ladder;
        }

        int nearest(int pitch) {
            int best = ladder.first();
            for (int rung : ladder) {
                if (Math.abs(rung - pitch) < Math.abs(best - pitch)) {
                    best = rung;
                }
            }
            return best;
        }

        int frame(Wren wren, int pitch) {
            boolean leap = false;
            if (wren.rung == null) {
                wren.rung = nearest(pitch);
            } else if (Math.abs(wren.rung - pitch) > leash) {
                int next = nearest(pitch);
                if (next != wren.rung) {
                    wren.changes++;
                    leap = Math.abs(next - wren.rung) > glide;
                }
                wren.rung = next;
            }
            if (leap) {
                wren.leaps++;
                wren.nudge = 0;
            } else {
                int due = wren.rung - pitch;
                int size = Math.abs(due - wren.nudge) * speed / 100;
                if (size == 0 && due != wren.nudge && speed > 0) {
                    size = 1;
                }
                wren.nudge += due > wren.nudge ? size : -size;
            }
            wren.frames++;
            int out = pitch + wren.nudge;
            if (ladder.contains(out)) {
                wren.clean++;
            }
            return out;
        }

        int sing(int wren, int pitch) {
            sung.add(pitch);
            return frame(wrens[wren], pitch);
        }

        int slide(int wren, int from, int to, int frames) {
            int before = wrens[wren].changes;
            for (int frame = 0; frame < frames; frame++) {
                // both parts are 0 at least, so that the quotient is rounded down
                sing(wren, (from * (frames - 1 - frame) + to * frame) / (frames - 1));
            }
            return wrens[wren].changes - before;
        }

        int setScale(int newKey, int newMode) {
            key = newKey;
            mode = newMode;
            ladder = ladder(key, mode);
            int lost = 0;
            for (Wren wren : wrens) {
                if (wren.rung != null && !ladder.contains(wren.rung)) {
                    wren.rung = null;
                    lost++;
                }
            }
            return lost;
        }

        int rest(int wren) {
            int rung = wrens[wren].rung == null ? -1 : wrens[wren].rung;
            wrens[wren].rung = null;
            wrens[wren].nudge = 0;
            return rung;
        }

        int framesToRung(int wren, int pitch) {
            Wren copy = wrens[wren].copy();
            for (int frames = 1; frames <= 999; frames++) {
                if (frame(copy, pitch) == copy.rung) {
                    return frames;
                }
            }
            return -1;
        }

        int stepOf(int pitch) {
            if (!ladder.contains(pitch)) {
                return -1;
            }
            return steps(mode).indexOf((pitch / 100 - key + 12) % 12);
        }

        int sung(int semitone) {
            int count = 0;
            for (int pitch : sung) {
                if ((pitch + 50) / 100 % 12 == semitone) {
                    count++;
                }
            }
            return count;
        }

        int within(int ofKey, int ofMode) {
            int count = 0;
            for (int step : steps(ofMode)) {
                count += sung((ofKey + step) % 12);
            }
            return count;
        }

        int bestKey(int ofMode) {
            int best = 11;
            for (int other = 11; other >= 0; other--) {
                if (within(other, ofMode) >= within(best, ofMode)) {
                    best = other;
                }
            }
            return best;
        }

        int inOctaves() {
            int pairs = 0;
            for (Wren one : wrens) {
                for (Wren other : wrens) {
                    if (one != other && one.rung != null && other.rung != null
                            && Math.abs(one.rung - other.rung) % 1200 == 0) {
                        pairs++;
                    }
                }
            }
            return pairs / 2;
        }
    }

    private static final Random RANDOM = new Random(20261119);

    public static void main(String[] args) {
        for (int run = 0; run < RUNS; run++) {
            oneRun(run);
        }
        Check.end();
    }

    private static void oneRun(int run) {
        TunedWrens x = new TunedWrens();
        Model model = new Model();
        // some runs stay near one pitch, so that leashes and glides matter
        int middle = RANDOM.nextInt(12001);
        int spread = RANDOM.nextBoolean() ? 12000 : 150 + RANDOM.nextInt(900);
        for (int call = 0; call < CALLS; call++) {
            int pitch = pitch(middle, spread);
            int[] a = {wren(), pitch, pitch(middle, spread), pick(2, 50), pick(0, 11), pick(0, 7)};
            int which = RANDOM.nextInt(26);
            long due = due(model, which, a);
            long got = got(x, which, a);
            if (got != due) {
                Check.tell("run " + run + ", call " + call + ", kind " + which + " of "
                        + java.util.Arrays.toString(a) + " answered " + got + ", due is " + due);
                return;
            }
        }
    }

    private static int wren() {
        return pick(0, 3);
    }

    private static int pitch(int middle, int spread) {
        int pitch = middle - spread + RANDOM.nextInt(2 * spread + 1);
        if (RANDOM.nextInt(4) == 0) {
            pitch = Math.floorDiv(pitch, 50) * 50;
        }
        return RANDOM.nextInt(60) == 0 ? pitch : Math.max(0, Math.min(12000, pitch));
    }

    /** A number of a range, seldom one just outside of it. */
    private static int pick(int least, int most) {
        if (RANDOM.nextInt(60) == 0) {
            return RANDOM.nextBoolean() ? least - 1 : most + 1;
        }
        return least + RANDOM.nextInt(most - least + 1);
    }

    private static boolean in(int value, int least, int most) {
        return value >= least && value <= most;
    }

    private static int[] nudging(int[] a) {
        int speed = a[3] < 10 ? a[3] - 2 : a[3] * 2;
        int leash = a[1] / 19;
        int glide = a[5] < 4 ? a[2] / 10 : a[2];
        return new int[] {speed, leash, glide};
    }

    private static long due(Model model, int which, int[] a) {
        boolean wren = in(a[0], 0, 3);
        boolean pitch = in(a[1], 0, 12000);
        boolean key = in(a[4], 0, 11);
        boolean mode = in(a[5], 0, 7);
        switch (which) {
            case 0:
                return key && mode ? model.setScale(a[4], a[5]) : REFUSED_ARGUMENT;
            case 1:
                int[] n = nudging(a);
                if (!in(n[0], 0, 100) || !in(n[1], 0, 600) || !in(n[2], 0, 12000)) {
                    return REFUSED_ARGUMENT;
                }
                model.speed = n[0];
                model.leash = n[1];
                model.glide = n[2];
                return 0;
            case 2:
                if (wren && !(pitch && in(a[2], 0, 12000) && in(a[3], 2, 50))) {
                    return REFUSED_ARGUMENT;
                }
                return wren ? model.slide(a[0], a[1], a[2], a[3]) : REFUSED_INDEX;
            case 3:
                return wren ? model.rest(a[0]) : REFUSED_INDEX;
            case 4:
                return model.ladder.size();
            case 5:
                return pitch ? model.nearest(a[1]) : REFUSED_ARGUMENT;
            case 6:
                int number = a[3] * 3 - 6;
                return in(number, 0, model.ladder.size() - 1)
                        ? new ArrayList<>(model.ladder).get(number) : REFUSED_INDEX;
            case 7:
                return pitch ? model.stepOf(a[1]) : REFUSED_ARGUMENT;
            case 8:
                return wren ? (model.wrens[a[0]].rung == null ? -1 : model.wrens[a[0]].rung) : REFUSED_INDEX;
            case 9:
                return wren ? model.wrens[a[0]].nudge : REFUSED_INDEX;
            case 10:
                return wren ? model.wrens[a[0]].frames : REFUSED_INDEX;
            case 11:
                return wren ? model.wrens[a[0]].changes : REFUSED_INDEX;
            case 12:
                return wren ? model.wrens[a[0]].leaps : REFUSED_INDEX;
            case 13:
                return wren ? model.wrens[a[0]].clean : REFUSED_INDEX;
            case 14:
            case 15:
                return wren ? (pitch ? model.framesToRung(a[0], a[1]) : REFUSED_ARGUMENT) : REFUSED_INDEX;
            case 16:
                return in(a[4], 0, 11) ? model.sung(a[4]) : REFUSED_INDEX;
            case 17:
                return mode ? model.bestKey(a[5]) : REFUSED_ARGUMENT;
            case 18:
                return key && mode ? model.within(a[4], a[5]) : REFUSED_ARGUMENT;
            case 19:
                return model.inOctaves();
            default:
                return wren ? (pitch ? model.sing(a[0], a[1]) : REFUSED_ARGUMENT) : REFUSED_INDEX;
        }
    }

    private static long got(TunedWrens x, int which, int[] a) {
        try {
            return answer(x, which, a);
        } catch (IndexOutOfBoundsException e) {
            return REFUSED_INDEX;
        } catch (IllegalArgumentException e) {
            return REFUSED_ARGUMENT;
        }
    }

    private static long answer(TunedWrens x, int which, int[] a) {
        switch (which) {
            case 0: return x.setScale(a[4], a[5]);
            case 1:
                int[] n = nudging(a);
                x.setNudging(n[0], n[1], n[2]);
                return 0;
            case 2: return x.slide(a[0], a[1], a[2], a[3]);
            case 3: return x.rest(a[0]);
            case 4: return x.rungs();
            case 5: return x.nearest(a[1]);
            case 6: return x.rung(a[3] * 3 - 6);
            case 7: return x.stepOf(a[1]);
            case 8: return x.rungOf(a[0]);
            case 9: return x.nudgeOf(a[0]);
            case 10: return x.framesOf(a[0]);
            case 11: return x.changesOf(a[0]);
            case 12: return x.leapsOf(a[0]);
            case 13: return x.cleanOf(a[0]);
            case 14:
            case 15: return x.framesToRung(a[0], a[1]);
            case 16: return x.sung(a[4]);
            case 17: return x.bestKey(a[5]);
            case 18: return x.within(a[4], a[5]);
            case 19: return x.inOctaves();
            default: return x.sing(a[0], a[1]);
        }
    }
}
