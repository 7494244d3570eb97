import java.util.NoSuchElementException;

/** All promises at once: long runs of made-up calls, each answer compared with that of the plain model. */
public final class ModelTest {
    private static final int RUNS = 1500;
    private static final int CALLS = 512;
    private static final int[] ODD = {-1, Integer.MIN_VALUE, Integer.MAX_VALUE, 12, 64, 301, 1000, -12};

    private static final Due due = new Due();

    private long seed;
    private MusicBoxEditor x;
    private PlainModel m;
    private String told;

    private interface Answer {
        long get();
    }

    public static void main(String[] args) {
        ModelTest test = new ModelTest();
        for (int run = 0; run < RUNS; run++) {
            test.run(run);
        }
        due.end();
    }

    private void run(int run) {
        seed = run * 7919L + 17;
        x = new MusicBoxEditor();
        m = new PlainModel();
        for (int call = 0; call < CALLS - 10; call++) {
            told = "run " + run + ", call " + call;
            if (below(12) == 0) {
                call += text();
            } else {
                one(below(57));
            }
        }
    }

    private int below(int bound) {
        seed = seed * 6364136223846793005L + 1442695040888963407L;
        return (int) ((seed >>> 33) % bound);
    }

    /** Mostly a number from least to most, sometimes one a little or far outside. */
    private int from(int least, int most) {
        int luck = below(24);
        if (luck == 0) {
            return ODD[below(ODD.length)];
        }
        return luck == 1 ? least - 1 : luck == 2 ? most + 1 : least + below(most - least + 1);
    }

    private int tune() {
        return from(0, 2);
    }

    private int tooth() {
        return from(0, m.toothCount() - 1);
    }

    private int step() {
        return from(0, m.stepCount() - 1);
    }

    private void same(String call, Answer got, Answer want) {
        due.same(told + ", " + call, answer(got), answer(want));
    }

    private static long answer(Answer answer) {
        try {
            return answer.get();
        } catch (PlainModel.Refused e) {
            return -1000000L - e.kind;
        } catch (RuntimeException e) {
            Class<?> c = e.getClass();
            return -1000000L - (c == IndexOutOfBoundsException.class ? 1 : c == IllegalArgumentException.class ? 2
                    : c == IllegalStateException.class ? 3 : c == NoSuchElementException.class ? 4 : 99);
        }
    }

    private int text() {
        String text = below(3) == 0 ? setup() : script();
        if (below(4) == 0 && !text.isEmpty()) {
            text = spoilt(text);
        }
        int calls = 1;
        for (int from = 0; from < text.length(); from += 20) {
            int[] words = new int[5];
            for (int i = 0; i < 20 && from + i < text.length(); i++) {
                words[i / 4] |= text.charAt(from + i) << 24 - 8 * (i % 4);
            }
            same("append", () -> x.append(words[0], words[1], words[2], words[3], words[4]), () -> m.append(words));
            calls++;
        }
        if (below(8) == 0) {
            return calls;
        }
        if (text.startsWith("box") != (below(20) == 0)) {
            same("load of " + text, x::load, m::load);
        } else {
            same("script " + text, x::runScript, m::runScript);
        }
        same("errorCode of " + text, x::errorCode, m::errorCode);
        same("errorPosition in " + text, x::errorPosition, m::errorPosition);
        return calls + 2;
    }

    private String setup() {
        StringBuilder t = new StringBuilder("box ");
        int steps = below(5) == 0 ? from(4, 64) : 4 + below(12);
        t.append(steps).append(' ').append(from(0, 20)).append(' ').append(from(0, 90)).append(";");
        int teeth = 1 + below(below(10) == 0 ? 13 : 5);
        for (int i = 0; i < teeth; i++) {
            t.append("tooth ").append(from(0, 60)).append(' ').append(from(1, 9)).append(' ');
            t.append(below(3) == 0 ? from(10, 999) : 10 + below(20)).append(";");
        }
        for (int i = below(12); i > 0; i--) {
            t.append("pin ").append(below(3)).append(' ').append(below(teeth)).append(' ').append(below(steps)).append(";");
        }
        return t.toString().replace("-", "");
    }

    private String script() {
        StringBuilder t = new StringBuilder();
        int wanted = below(15) == 0 ? 28 + below(6) : below(9);
        commands(t, wanted, 0);
        return t.toString().replace("-", "");
    }

    private void commands(StringBuilder t, int wanted, int level) {
        int left = wanted;
        while (left > 0) {
            left--;
            if (below(6) == 0 && level < (below(10) == 0 ? 3 : 2)) {
                int inner = below(left + 1);
                left -= inner;
                t.append("repeat ").append(below(4) == 0 ? from(0, 20) : below(4)).append("(");
                commands(t, inner, level + 1);
                t.append(");");
            } else {
                command(t);
            }
        }
    }

    private void command(StringBuilder t) {
        int tooth = below(10) == 0 ? below(13) : below(m.toothCount());
        int step = below(10) == 0 ? below(65) : below(m.stepCount());
        switch (below(11)) {
            case 0:
            case 1:
                t.append("pin ").append(below(3)).append(' ').append(tooth).append(' ').append(step);
                break;
            case 2:
                t.append("unpin ").append(below(3)).append(' ').append(tooth).append(' ').append(step);
                break;
            case 3:
                t.append("gap ").append(tooth).append(' ').append(1 + below(9));
                break;
            case 4:
                t.append("bend ").append(tooth).append(below(2) == 0 ? " up " : " down ").append(1 + below(3));
                break;
            case 5:
                t.append("mend ").append(tooth);
                break;
            case 6:
                t.append("vane ").append(from(0, 90));
                break;
            case 7:
                t.append("wind ").append(below(5) == 0 ? from(1, 20) : 1 + below(3));
                break;
            case 8:
                t.append("tune ").append(below(3));
                break;
            default:
                t.append("play ").append(below(5) == 0 ? from(1, 300) : 1 + below(20));
                break;
        }
        t.append(below(30) == 0 ? "" : below(5) == 0 ? " ;\n" : ";");
    }

    private String spoilt(String text) {
        StringBuilder t = new StringBuilder(text);
        int at = below(text.length());
        String odd = " ;()a0x9\u00e9\nP\t";
        switch (below(4)) {
            case 0:
                t.deleteCharAt(at);
                break;
            case 1:
                t.insert(at, odd.charAt(below(odd.length())));
                break;
            case 2:
                t.setCharAt(at, odd.charAt(below(odd.length())));
                break;
            default:
                t.setLength(at);
                break;
        }
        return t.toString();
    }

    private void one(int call) {
        if (call < 24) {
            query(call);
        } else if (call < 33) {
            query2(call);
        } else {
            change(call);
        }
    }

    private void query(int call) {
        int u = tune(), t = tooth(), p = step();
        switch (call) {
            case 0: same("stepCount", x::stepCount, m::stepCount); break;
            case 1: same("selectedTune", x::selectedTune, m::selectedTune); break;
            case 2: same("position", x::position, m::position); break;
            case 3: same("isPin " + u + " " + t + " " + p, () -> x.isPin(u, t, p) ? 1 : 0, () -> m.isPin(u, t, p)); break;
            case 4: same("pinCount " + u, () -> x.pinCount(u), () -> m.pinCount(u)); break;
            case 5: same("chord " + u + " " + p, () -> x.chord(u, p), () -> m.chord(u, p)); break;
            case 6: same("distance " + u + " " + t + " " + p, () -> x.distance(u, t, p), () -> m.distance(u, t, p)); break;
            case 7: same("closePins " + u, () -> x.closePins(u), () -> m.closePins(u)); break;
            case 8: same("longestRest " + u, () -> x.longestRest(u), () -> m.longestRest(u)); break;
            case 9: same("toothCount", x::toothCount, m::toothCount); break;
            case 10: same("soundingPitch " + t, () -> x.soundingPitch(t), () -> m.soundingPitch(t)); break;
            case 11: same("bendOf " + t, () -> x.bendOf(t), () -> m.bendOf(t)); break;
            case 12: same("gap " + t, () -> x.gap(t), () -> m.gap(t)); break;
            case 13: same("wear " + t, () -> x.wear(t), () -> m.wear(t)); break;
            case 14: same("silence " + t, () -> x.silence(t), () -> m.silence(t)); break;
            case 15: same("isBroken " + t, () -> x.isBroken(t) ? 1 : 0, () -> m.isBroken(t)); break;
            case 16: same("nextSound " + t, () -> x.nextSound(t), () -> m.nextSound(t)); break;
            case 17: same("turnsLeft", x::turnsLeft, m::turnsLeft); break;
            case 18: same("vane", x::vane, m::vane); break;
            case 19: same("tempo", x::tempo, m::tempo); break;
            case 20: same("secondsPerStepBits", x::secondsPerStepBits, m::secondsPerStepBits); break;
            case 21: same("secondsPerStep", () -> Double.doubleToLongBits(x.secondsPerStep()), m::secondsPerStepBits); break;
            case 22: same("noteCount", x::noteCount, m::noteCount); break;
            default: same("squeakCount", x::squeakCount, m::squeakCount); break;
        }
    }

    private void query2(int call) {
        int u = tune(), t = tooth(), n = from(0, 300);
        switch (call) {
            case 24: same("stepsPlayed", x::stepsPlayed, m::stepsPlayed); break;
            case 25: same("brokenTeeth", x::brokenTeeth, m::brokenTeeth); break;
            case 26: same("meanPitch " + u, () -> Double.doubleToLongBits(x.meanPitch(u)), () -> m.meanPitchBits(u)); break;
            case 27: same("density " + u, () -> Float.floatToIntBits(x.density(u)), () -> m.densityBits(u)); break;
            case 28: same("contradictions", x::contradictions, () -> 0L); break;
            case 29: same("stepsLeft", x::stepsLeft, m::stepsLeft); break;
            case 30: same("stepsUntilBroken " + t, () -> x.stepsUntilBroken(t), () -> m.stepsUntilBroken(t)); break;
            case 31: same("notesIn " + n, () -> x.notesIn(n), () -> m.soundsIn(n, true)); break;
            default: same("squeaksIn " + n, () -> x.squeaksIn(n), () -> m.soundsIn(n, false)); break;
        }
    }

    private void change(int call) {
        int u = tune(), u2 = tune(), t = tooth(), p = step();
        int n = below(6) == 0 ? from(1, 300) : from(1, 12);
        int g = from(1, 9), b = from(-3, 3), a = from(0, 90), w = below(3) == 0 ? from(1, 20) : 1 + below(3);
        int k = from(0, 63), d = below(4) == 0 ? from(-11, 11) : below(5) - 2, s = from(0, 1), i = from(0, 63);
        switch (call) {
            case 33: case 34: same("addPin " + u + " " + t + " " + p, () -> x.addPin(u, t, p), () -> m.addPin(u, t, p)); break;
            case 35: same("removePin " + u + " " + t + " " + p, () -> x.removePin(u, t, p), () -> m.removePin(u, t, p)); break;
            case 36: same("shift " + u + " " + k, () -> x.shift(u, k), () -> m.shift(u, k)); break;
            case 37: same("transpose " + u + " " + d, () -> x.transpose(u, d), () -> m.transpose(u, d)); break;
            case 38: same("copyTune " + u + " " + u2, () -> x.copyTune(u, u2), () -> m.copyTune(u, u2)); break;
            case 39: same("selectTune " + u, () -> x.selectTune(u), () -> m.selectTune(u)); break;
            case 40: same("setGap " + t + " " + g, () -> x.setGap(t, g), () -> m.setGap(t, g)); break;
            case 41: same("bend " + t + " " + b, () -> x.bend(t, b), () -> m.bend(t, b)); break;
            case 42: same("replaceTooth " + t, () -> x.replaceTooth(t), () -> m.replaceTooth(t)); break;
            case 43: same("setVane " + a, () -> x.setVane(a), () -> m.setVane(a)); break;
            case 44: case 45: same("wind " + w, () -> x.wind(w), () -> m.wind(w)); break;
            case 46: case 47: case 48: same("play " + n, () -> x.play(n), () -> m.play(n)); break;
            case 49: same("writePins " + u + " " + t, () -> x.writePins(u, t), () -> m.writePins(u, t)); break;
            case 50: same("writeComb", x::writeComb, m::writeComb); break;
            case 51: same("outputByte " + i, () -> x.outputByte(i), () -> m.outputByte(i)); break;
            case 52: same("undoCount", x::undoCount, m::undoCount); break;
            case 53: same("undo", x::undo, m::undo); break;
            case 54: same("save " + s, () -> x.save(s), () -> m.save(s)); break;
            case 55: same("restore " + s, () -> x.restore(s), () -> m.restore(s)); break;
            default: same("truncate " + k, () -> x.truncate(below2(k)), () -> m.truncate(below2(k))); break;
        }
    }

    /** Half of the cuts leave nothing, so that a text that is left over does not spoil all that follow. */
    private static int below2(int k) {
        return k % 2 == 0 ? 0 : k;
    }
}
