import java.util.NoSuchElementException;

/**
 * "A method that throws an exception changes nothing. If several exceptions apply, the one that is listed
 * first is thrown": each method that throws, with each of its exceptions, in a box of which all can be seen
 * later: changes to undo, one slot of two, an output, an error and a text.
 */
public final class EdgeRefusalTest {
    private static final Due due = new Due();
    private static final Class<? extends RuntimeException> NO_SUCH = IndexOutOfBoundsException.class;
    private static final Class<? extends RuntimeException> ARGUMENT = IllegalArgumentException.class;
    private static final Class<? extends RuntimeException> STATE = IllegalStateException.class;
    private static final Class<? extends RuntimeException> ELEMENT = NoSuchElementException.class;
    private static final int[] NO_TUNES = {-1, 3, 4, Integer.MIN_VALUE, Integer.MAX_VALUE};
    private static final int[] NO_TEETH = {-1, 2, 11, 12, Integer.MIN_VALUE, Integer.MAX_VALUE};
    private static final int[] NO_STEPS = {-1, 4, 63, 64, Integer.MIN_VALUE, Integer.MAX_VALUE};

    private interface Use {
        void of(MusicBoxEditor x);
    }

    private interface Place {
        void at(MusicBoxEditor x, int tune, int tooth, int step);
    }

    private static final String used = Due.world(used());

    public static void main(String[] args) {
        places();
        tunesAndSteps();
        teeth();
        rollStates();
        rollArguments();
        combArguments();
        springArguments();
        slots();
        texts();
        withoutTurns();
        withoutUndo();
        fullHistory();
        questionsChangeNothing();
        due.end();
    }

    /** Four steps, two teeth of which the second is broken, three changes, and something of all else. */
    private static MusicBoxEditor used() {
        MusicBoxEditor x = Due.box("box 4 5 40;tooth 10 3 30;tooth 14 2 12;pin 0 0 0;pin 0 1 1;pin 0 1 2;pin 1 0 1;pin 1 1 1;");
        x.play(11);
        x.save(1);
        Due.script(x, "vane 39;vane 91;");
        x.bend(0, 3);
        x.setVane(38);
        x.writeComb();
        Due.write(x, "vane 77;");
        return x;
    }

    /** The call throws, and behind it all is as if it had not been made. */
    private static void refused(String call, Class<? extends RuntimeException> want, Use use) {
        MusicBoxEditor x = used();
        due.thrown(call, want, () -> use.of(x));
        due.same("all behind " + call, Due.world(x), used);
    }

    private static void refused(String call, Class<? extends RuntimeException> want, Use before, Use use) {
        MusicBoxEditor x = used();
        before.of(x);
        due.thrown(call, want, () -> use.of(x));
        MusicBoxEditor twin = used();
        before.of(twin);
        due.same("all behind " + call, Due.world(x), Due.world(twin));
    }

    private static void refusedPlaces(String name, Place call) {
        for (int tune : NO_TUNES) {
            refused(name + " of tune " + tune, NO_SUCH, x -> call.at(x, tune, 0, 0));
        }
        for (int tooth : NO_TEETH) {
            refused(name + " of tooth " + tooth, NO_SUCH, x -> call.at(x, 0, tooth, 0));
        }
        for (int step : NO_STEPS) {
            refused(name + " of step " + step, NO_SUCH, x -> call.at(x, 0, 0, step));
        }
        refused(name + " of no place", NO_SUCH, x -> call.at(x, 3, 2, 4));
    }

    private static void places() {
        due.about("if there is no such tune, tooth or step");
        refusedPlaces("isPin", MusicBoxEditor::isPin);
        refusedPlaces("distance", MusicBoxEditor::distance);
        refusedPlaces("addPin", MusicBoxEditor::addPin);
        refusedPlaces("removePin", MusicBoxEditor::removePin);
    }

    private static void tunesAndSteps() {
        due.about("if there is no such tune");
        for (int tune : NO_TUNES) {
            refused("pinCount", NO_SUCH, x -> x.pinCount(tune));
            refused("chord", NO_SUCH, x -> x.chord(tune, 0));
            refused("closePins", NO_SUCH, x -> x.closePins(tune));
            refused("longestRest", NO_SUCH, x -> x.longestRest(tune));
            refused("meanPitch", NO_SUCH, x -> x.meanPitch(tune));
            refused("density", NO_SUCH, x -> x.density(tune));
            refused("shift", NO_SUCH, x -> x.shift(tune, 1));
            refused("shift by 64", NO_SUCH, x -> x.shift(tune, 64));
            refused("shift by -1", NO_SUCH, x -> x.shift(tune, -1));
            refused("transpose", NO_SUCH, x -> x.transpose(tune, 0));
            refused("transpose by 12", NO_SUCH, x -> x.transpose(tune, 12));
            refused("transpose by -12", NO_SUCH, x -> x.transpose(tune, -12));
            refused("copyTune from", NO_SUCH, x -> x.copyTune(tune, 0));
            refused("copyTune to", NO_SUCH, x -> x.copyTune(0, tune));
            refused("copyTune from and to the same", NO_SUCH, x -> x.copyTune(tune, tune));
            refused("selectTune", NO_SUCH, x -> x.selectTune(tune));
            refused("writePins", NO_SUCH, x -> x.writePins(tune, 0));
            refused("writePins of no tooth", NO_SUCH, x -> x.writePins(tune, 2));
        }
        for (int step : NO_STEPS) {
            refused("chord", NO_SUCH, x -> x.chord(0, step));
            refused("chord of no tune", NO_SUCH, x -> x.chord(3, step));
        }
    }

    private static void teeth() {
        due.about("if there is no such tooth");
        for (int tooth : NO_TEETH) {
            refused("soundingPitch", NO_SUCH, x -> x.soundingPitch(tooth));
            refused("bendOf", NO_SUCH, x -> x.bendOf(tooth));
            refused("gap", NO_SUCH, x -> x.gap(tooth));
            refused("wear", NO_SUCH, x -> x.wear(tooth));
            refused("silence", NO_SUCH, x -> x.silence(tooth));
            refused("isBroken", NO_SUCH, x -> x.isBroken(tooth));
            refused("nextSound", NO_SUCH, x -> x.nextSound(tooth));
            refused("stepsUntilBroken", NO_SUCH, x -> x.stepsUntilBroken(tooth));
            refused("setGap", NO_SUCH, x -> x.setGap(tooth, 5));
            refused("setGap to 0", NO_SUCH, x -> x.setGap(tooth, 0));
            refused("setGap to 10", NO_SUCH, x -> x.setGap(tooth, 10));
            refused("bend", NO_SUCH, x -> x.bend(tooth, 1));
            refused("bend by 0", NO_SUCH, x -> x.bend(tooth, 0));
            refused("bend by 4", NO_SUCH, x -> x.bend(tooth, 4));
            refused("replaceTooth", NO_SUCH, x -> x.replaceTooth(tooth));
            refused("writePins", NO_SUCH, x -> x.writePins(0, tooth));
        }
    }

    private static void rollStates() {
        due.about("Throws IllegalStateException if there is a pin / if there is no pin");
        refused("addPin", STATE, x -> x.addPin(0, 0, 0));
        refused("addPin", STATE, x -> x.addPin(1, 1, 1));
        refused("removePin", STATE, x -> x.removePin(0, 0, 1));
        refused("removePin", STATE, x -> x.removePin(2, 1, 3));
        due.about("Throws NoSuchElementException if there is no pin");
        refused("distance", ELEMENT, x -> x.distance(0, 0, 1));
        refused("distance", ELEMENT, x -> x.distance(2, 1, 3));
        due.about("if a pin would belong to a tooth that does not exist");
        for (int by : new int[] {1, 2, 11, -1, -2, -11}) {
            refused("transpose by " + by, STATE, x -> x.transpose(1, by));
        }
    }

    private static void rollArguments() {
        due.about("Throws IllegalArgumentException if steps / teeth is out of range");
        for (int wrong : new int[] {-1, 64, 65, Integer.MIN_VALUE, Integer.MAX_VALUE}) {
            refused("shift by " + wrong, ARGUMENT, x -> x.shift(0, wrong));
            refused("shift of no pins by " + wrong, ARGUMENT, x -> x.shift(2, wrong));
        }
        for (int wrong : new int[] {12, -12, 13, -13, Integer.MIN_VALUE, Integer.MAX_VALUE}) {
            refused("transpose by " + wrong, ARGUMENT, x -> x.transpose(0, wrong));
            refused("transpose of no pins by " + wrong, ARGUMENT, x -> x.transpose(2, wrong));
        }
        due.about("Throws IllegalArgumentException if both are the same tune");
        for (int tune = 0; tune < 3; tune++) {
            int same = tune;
            refused("copyTune of " + tune, ARGUMENT, x -> x.copyTune(same, same));
        }
    }

    private static void combArguments() {
        due.about("Throws IllegalArgumentException if gap / amount is out of range");
        for (int wrong : new int[] {0, 10, -1, Integer.MIN_VALUE, Integer.MAX_VALUE}) {
            refused("setGap to " + wrong, ARGUMENT, x -> x.setGap(0, wrong));
        }
        for (int wrong : new int[] {0, 4, -4, Integer.MIN_VALUE, Integer.MAX_VALUE}) {
            refused("bend by " + wrong, ARGUMENT, x -> x.bend(0, wrong));
            refused("bend of a broken tooth by " + wrong, ARGUMENT, x -> x.bend(1, wrong));
        }
        due.about("if the tooth is broken, or the bend would be out of its range");
        for (int amount : new int[] {1, 2, 3, -1, -2, -3}) {
            refused("bend of a broken tooth by " + amount, STATE, x -> x.bend(1, amount));
        }
        for (int amount = 1; amount <= 3; amount++) {
            int up = amount;
            refused("bend from 3 by " + amount, STATE, x -> x.bend(0, up));
            refused("bend from -3 by -" + amount, STATE, x -> {
                x.bend(0, -3);
                x.bend(0, -3);
            }, x -> x.bend(0, -up));
        }
    }

    private static void springArguments() {
        due.about("Throws IllegalArgumentException if angle / turns / steps is out of range");
        for (int wrong : new int[] {-1, 91, Integer.MIN_VALUE, Integer.MAX_VALUE}) {
            refused("setVane(" + wrong + ")", ARGUMENT, x -> x.setVane(wrong));
        }
        for (int wrong : new int[] {0, -1, 21, Integer.MIN_VALUE, Integer.MAX_VALUE}) {
            refused("wind(" + wrong + ")", ARGUMENT, x -> x.wind(wrong));
        }
        for (int wrong : new int[] {0, -1, 301, Integer.MIN_VALUE, Integer.MAX_VALUE}) {
            refused("play(" + wrong + ")", ARGUMENT, x -> x.play(wrong));
        }
        for (int wrong : new int[] {-1, 301, Integer.MIN_VALUE, Integer.MAX_VALUE}) {
            refused("notesIn(" + wrong + ")", ARGUMENT, x -> x.notesIn(wrong));
            refused("squeaksIn(" + wrong + ")", ARGUMENT, x -> x.squeaksIn(wrong));
        }
        due.about("Throws IllegalStateException if more than 20 turns would be left");
        refused("wind(18) with 3", STATE, x -> x.wind(18));
        refused("wind(20) with 3", STATE, x -> x.wind(20));
    }

    private static void slots() {
        due.about("if there is no such slot / if the slot is empty");
        for (int wrong : new int[] {-1, 2, Integer.MIN_VALUE, Integer.MAX_VALUE}) {
            refused("save(" + wrong + ")", NO_SUCH, x -> x.save(wrong));
            refused("restore(" + wrong + ")", NO_SUCH, x -> x.restore(wrong));
        }
        refused("restore(0)", ELEMENT, x -> x.restore(0));
    }

    private static void texts() {
        due.about("if length is out of range / if the buffer would hold more than 800 bytes");
        for (int wrong : new int[] {-1, 9, 800, Integer.MIN_VALUE, Integer.MAX_VALUE}) {
            refused("truncate(" + wrong + ") of 8", ARGUMENT, x -> x.truncate(wrong));
        }
        Use fill = x -> Due.write(x, Due.times(781, " "));
        refused("12 bytes over 789", STATE, fill, x -> x.append(-1, -1, -1, 0, 0));
        refused("20 bytes over 789", STATE, fill, x -> x.append(0x76616e65, 0x20333b20, 0x20202020, 0x20202020, 0x20202020));
        Use fillAll = x -> Due.write(x, Due.times(792, " "));
        refused("one byte over 800", STATE, fillAll, x -> x.append(0, 0, 0, 0, 1));
        refused("one byte over 800", STATE, fillAll, x -> x.append(0x01000000, 0, 0, 0, 0));
        refused("truncate(801) of 800", ARGUMENT, fillAll, x -> x.truncate(801));
    }

    private static void withoutTurns() {
        due.about("Throws IllegalStateException if the turns are 0");
        Use unwind = x -> x.play(300);
        refused("play(1)", STATE, unwind, x -> x.play(1));
        refused("play(300)", STATE, unwind, x -> x.play(300));
        refused("play(0)", ARGUMENT, unwind, x -> x.play(0));
        refused("play(301)", ARGUMENT, unwind, x -> x.play(301));
        due.about("Throws IllegalStateException if more than 20 turns would be left");
        Use windUp = x -> x.wind(17);
        refused("wind(1) with 20", STATE, windUp, x -> x.wind(1));
        refused("wind(21) with 20", ARGUMENT, windUp, x -> x.wind(21));
        refused("wind(greatest int) with 20", ARGUMENT, windUp, x -> x.wind(Integer.MAX_VALUE));
    }

    private static void withoutUndo() {
        due.about("Throws IllegalStateException if no change can be undone");
        refused("undo behind three", STATE, x -> {
            x.undo();
            x.undo();
            x.undo();
        }, MusicBoxEditor::undo);
        refused("undo behind a restore", STATE, x -> x.restore(1), MusicBoxEditor::undo);
        refused("undo in a new box", STATE, x -> {
            x.truncate(0);
            Due.write(x, "box 4 1 0;tooth 5 3 30;");
            x.load();
        }, MusicBoxEditor::undo);
        refused("restore in a new box", ELEMENT, x -> {
            x.truncate(0);
            Due.write(x, "box 4 1 0;tooth 5 3 30;");
            x.load();
        }, x -> x.restore(1));
    }

    private static void fullHistory() {
        due.about("A method that throws an exception changes nothing");
        Use[] calls = {x -> x.addPin(0, 0, 0), x -> x.addPin(3, 0, 0), x -> x.removePin(0, 0, 1), x -> x.shift(0, 64),
            x -> x.transpose(0, 1), x -> x.transpose(0, 12), x -> x.copyTune(0, 0), x -> x.selectTune(3),
            x -> x.setGap(0, 0), x -> x.setGap(3, 1), x -> x.bend(0, 0), x -> x.bend(0, 3), x -> x.replaceTooth(3),
            x -> x.setVane(91), x -> x.wind(0), x -> x.wind(20), x -> x.play(0), x -> x.restore(0), x -> x.save(2),
            x -> x.truncate(1), x -> x.writePins(0, 3)};
        for (int i = 0; i < calls.length; i++) {
            MusicBoxEditor x = new MusicBoxEditor();
            x.bend(0, 2);
            for (int k = 1; k <= 8; k++) {
                x.setVane(k);
            }
            Use call = calls[i];
            boolean thrown = false;
            try {
                call.of(x);
            } catch (RuntimeException e) {
                thrown = true;
            }
            due.same("call " + i + " throws", thrown, true);
            due.same("undoCount behind call " + i, x.undoCount(), 8);
            for (int k = 7; k >= 1; k--) {
                due.same("undo behind call " + i, x.undo(), k);
                due.same("vane behind call " + i, x.vane(), k);
            }
            due.same("the last undo behind call " + i, x.undo(), 0);
            due.same("vane behind call " + i, x.vane(), 40);
        }
    }

    private static void unchanged(String call, Use use) {
        MusicBoxEditor x = used();
        use.of(x);
        due.same("all behind " + call, Due.world(x), used);
    }

    private static void questionsChangeNothing() {
        due.about("Returns ..., and no word of a change");
        unchanged("state", Due::state);
        unchanged("isPin", x -> x.isPin(0, 0, 0));
        unchanged("pinCount", x -> x.pinCount(0));
        unchanged("chord", x -> x.chord(0, 0));
        unchanged("distance", x -> x.distance(0, 1, 2));
        unchanged("closePins", x -> x.closePins(0));
        unchanged("longestRest", x -> x.longestRest(0));
        unchanged("secondsPerStep", x -> x.secondsPerStep());
        unchanged("secondsPerStepBits", x -> x.secondsPerStepBits());
        unchanged("meanPitch", x -> x.meanPitch(0));
        unchanged("density", x -> x.density(0));
        unchanged("contradictions", x -> x.contradictions());
        unchanged("stepsUntilBroken", x -> x.stepsUntilBroken(0));
        unchanged("notesIn", x -> x.notesIn(300));
        unchanged("squeaksIn", x -> x.squeaksIn(300));
        unchanged("outputByte", x -> x.outputByte(0));
        unchanged("outputByte of no byte", x -> x.outputByte(100));
        unchanged("truncate to the present length", x -> x.truncate(8));
        unchanged("append of nothing", x -> x.append(0, 0, 0, 0, 0));
        unchanged("errorCode", x -> x.errorCode());
        unchanged("errorPosition", x -> x.errorPosition());
        unchanged("undoCount", x -> x.undoCount());
    }
}
