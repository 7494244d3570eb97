/** Promises 8 to 16 and 41 to 46: the roll and its changes. */
public final class RollTest {
    private static final Due due = new Due();

    private static final int[] WRONG_TUNES = {-1, 3, Integer.MIN_VALUE, Integer.MAX_VALUE};
    private static final int[] WRONG_TEETH = {-1, 3, 12, Integer.MIN_VALUE, Integer.MAX_VALUE};
    private static final int[] WRONG_STEPS = {-1, 8, 64, Integer.MIN_VALUE, Integer.MAX_VALUE};

    private interface Place {
        void at(int tune, int tooth, int step);
    }

    private interface Tune {
        void at(int tune);
    }

    public static void main(String[] args) {
        plainAnswers();
        chord();
        distance();
        closePins();
        longestRest();
        addAndRemove();
        shift();
        transpose();
        copyTune();
        selectTune();
        wrongPlaces();
        due.end();
    }

    private static void plainAnswers() {
        MusicBoxEditor x = Due.box("box 5 2 0;tooth 1 1 10;tooth 2 1 10;pin 0 0 4;pin 2 1 0;pin 2 1 4;");
        due.same("stepCount", x.stepCount(), 5);
        due.same("selectedTune", x.selectedTune(), 0);
        due.same("position", x.position(), 0);
        x.play(4);
        due.same("position", x.position(), 4);
        x.play(1);
        due.same("position behind the last step", x.position(), 0);
        due.same("isPin", x.isPin(0, 0, 4), true);
        due.same("isPin of another tune", x.isPin(1, 0, 4), false);
        due.same("isPin of another tooth", x.isPin(0, 1, 4), false);
        due.same("isPin of another step", x.isPin(0, 0, 3), false);
        due.same("isPin", x.isPin(2, 1, 0), true);
        due.same("pinCount(0)", x.pinCount(0), 1);
        due.same("pinCount(1)", x.pinCount(1), 0);
        due.same("pinCount(2)", x.pinCount(2), 2);
        x.selectTune(2);
        due.same("selectedTune", x.selectedTune(), 2);
        due.same("no query is a change", x.undoCount(), 3);
    }

    private static void chord() {
        MusicBoxEditor x = new MusicBoxEditor();
        due.same("chord(0, 1)", x.chord(0, 1), 0);
        due.same("chord(0, 0)", x.chord(0, 0), 1);
        due.same("chord(0, 4)", x.chord(0, 4), 4);
        x.addPin(0, 1, 4);
        x.addPin(0, 0, 4);
        due.same("chord(0, 4)", x.chord(0, 4), 7);
        due.same("chord(1, 4)", x.chord(1, 4), 0);
        due.same("chord(1, 5)", x.chord(1, 5), 1);
        due.noSuch("chord(-1, 0)", () -> x.chord(-1, 0));
        due.noSuch("chord(3, 0)", () -> x.chord(3, 0));
        due.noSuch("chord(0, -1)", () -> x.chord(0, -1));
        due.noSuch("chord(0, 8)", () -> x.chord(0, 8));
        due.noSuch("chord(0, max)", () -> x.chord(0, Integer.MAX_VALUE));
        due.noSuch("chord(3, 8)", () -> x.chord(3, 8));
    }

    private static void distance() {
        MusicBoxEditor x = Due.box("box 10 2 0;tooth 1 1 10;tooth 2 1 10;pin 0 0 1;pin 0 0 4;pin 0 0 9;pin 0 1 3;pin 1 0 8;");
        due.same("distance to the step before the end", x.distance(0, 0, 1), 2);
        due.same("distance(0, 0, 4)", x.distance(0, 0, 4), 3);
        due.same("distance(0, 0, 9)", x.distance(0, 0, 9), 5);
        due.same("the only pin of its tooth", x.distance(0, 1, 3), 10);
        due.same("the only pin of its tune", x.distance(1, 0, 8), 10);
        due.noElement("no pin", () -> x.distance(0, 0, 0));
        due.noElement("no pin of this tooth", () -> x.distance(0, 1, 4));
        due.noElement("no pin of this tune", () -> x.distance(2, 0, 4));
        due.noSuch("distance(0, 0, 10)", () -> x.distance(0, 0, 10));
        MusicBoxEditor y = Due.box("box 64 2 0;tooth 1 1 10;pin 0 0 0;pin 0 0 63;");
        due.same("distance over the end of 64 steps", y.distance(0, 0, 0), 1);
        due.same("distance along 64 steps", y.distance(0, 0, 63), 63);
    }

    private static void closePins() {
        MusicBoxEditor x = Due.box("box 10 2 0;tooth 1 3 10;tooth 2 2 10;pin 0 0 1;pin 0 0 4;pin 0 0 9;"
                + "pin 0 1 3;pin 0 1 5;pin 1 1 0;pin 1 1 1;pin 1 1 2;");
        due.same("a distance of the gap is not close", x.closePins(0), 1);
        due.same("closePins(1)", x.closePins(1), 2);
        due.same("closePins(2)", x.closePins(2), 0);
        x.setGap(0, 4);
        due.same("closePins(0) with a gap of 4", x.closePins(0), 2);
        x.setGap(0, 9);
        due.same("closePins(0) with a gap of 9", x.closePins(0), 3);
        MusicBoxEditor y = Due.box("box 4 2 0;tooth 1 5 10;pin 0 0 1;pin 1 0 0;pin 1 0 2;");
        due.same("a single pin is close if the gap is over the roll", y.closePins(0), 1);
        due.same("two pins", y.closePins(1), 2);
        y.setGap(0, 4);
        due.same("a single pin at the gap of the roll", y.closePins(0), 0);
    }

    private static void longestRest() {
        MusicBoxEditor x = Due.box("box 10 2 0;tooth 1 3 10;tooth 2 2 10;pin 0 0 2;pin 0 1 6;pin 1 1 9;pin 2 0 0;pin 2 0 9;");
        due.same("around the roll", x.longestRest(0), 5);
        due.same("one pin", x.longestRest(1), 9);
        due.same("between the ends", x.longestRest(2), 8);
        x.addPin(0, 0, 8);
        due.same("two rests of three", x.longestRest(0), 3);
        x.removePin(1, 1, 9);
        due.same("no pins", x.longestRest(1), 10);
        MusicBoxEditor z = Due.box("box 20 2 0;tooth 1 3 10;pin 0 0 9;pin 0 0 17;");
        due.same("far behind the end", z.longestRest(0), 11);
        MusicBoxEditor y = Due.box("box 4 2 0;tooth 1 3 10;tooth 2 2 10;pin 0 0 0;pin 0 0 1;pin 0 1 2;pin 0 1 3;");
        due.same("no rest", y.longestRest(0), 0);
    }

    private static void addAndRemove() {
        MusicBoxEditor x = new MusicBoxEditor();
        due.same("addPin(0, 0, 7)", x.addPin(0, 0, 7), 5);
        due.same("pins", Due.pins(x, 0, 0), "#------#");
        due.same("addPin(2, 2, 0)", x.addPin(2, 2, 0), 1);
        due.same("changes", x.undoCount(), 2);
        due.badState("addPin twice", () -> x.addPin(2, 2, 0));
        due.badState("addPin where the setup has one", () -> x.addPin(0, 1, 3));
        due.same("what throws is no change", x.undoCount(), 2);
        due.same("removePin(0, 0, 0)", x.removePin(0, 0, 0), 4);
        due.same("pins", Due.pins(x, 0, 0), "-------#");
        due.badState("removePin twice", () -> x.removePin(0, 0, 0));
        due.badState("removePin of another tune", () -> x.removePin(1, 0, 7));
        due.same("changes", x.undoCount(), 3);
        due.same("removePin(2, 2, 0)", x.removePin(2, 2, 0), 0);
    }

    private static void shift() {
        MusicBoxEditor x = new MusicBoxEditor();
        due.same("shift(0, 0)", x.shift(0, 0), 4);
        due.same("is a change", x.undoCount(), 1);
        due.same("pins", Due.pins(x, 0, 1), "--##----");
        due.same("shift(0, 3)", x.shift(0, 3), 4);
        due.same("pins 0 0", Due.pins(x, 0, 0), "---#----");
        due.same("pins 0 1", Due.pins(x, 0, 1), "-----##-");
        due.same("pins 0 2", Due.pins(x, 0, 2), "-------#");
        due.same("another tune stays", Due.pins(x, 1, 0), "-#---#--");
        due.same("shift(0, 2)", x.shift(0, 2), 4);
        due.same("over the end", Due.pins(x, 0, 1), "#------#");
        due.same("shift(0, 8)", x.shift(0, 8), 4);
        due.same("once around", Due.pins(x, 0, 1), "#------#");
        due.same("shift(0, 63)", x.shift(0, 63), 4);
        due.same("63 is 7 of 8", Due.pins(x, 0, 1), "------##");
        due.same("shift(2, 5)", x.shift(2, 5), 0);
        due.badArgument("shift(0, -1)", () -> x.shift(0, -1));
        due.badArgument("shift(0, 64)", () -> x.shift(0, 64));
        due.badArgument("shift(0, min)", () -> x.shift(0, Integer.MIN_VALUE));
        due.noSuch("shift(3, 64)", () -> x.shift(3, 64));
        due.noSuch("shift(-1, 0)", () -> x.shift(-1, 0));
        due.same("changes", x.undoCount(), 6);
        MusicBoxEditor y = Due.box("box 64 2 0;tooth 1 3 10;pin 0 0 0;pin 0 0 63;pin 0 0 31;");
        y.shift(0, 63);
        due.same("63 of 64 steps", y.isPin(0, 0, 63), true);
        due.same("63 of 64 steps", y.isPin(0, 0, 62), true);
        due.same("63 of 64 steps", y.isPin(0, 0, 30), true);
        y.shift(0, 1);
        due.same("one more", y.isPin(0, 0, 0), true);
        due.same("one more", y.isPin(0, 0, 63), true);
        due.same("one more", y.pinCount(0), 3);
        MusicBoxEditor z = Due.box("box 5 2 0;tooth 1 3 10;pin 0 0 4;");
        z.shift(0, 63);
        due.same("4 and 63 of 5 steps", z.isPin(0, 0, 2), true);
    }

    private static void transpose() {
        MusicBoxEditor x = Due.box("box 4 2 0;tooth 1 3 10;tooth 2 3 10;tooth 3 3 10;tooth 4 3 10;"
                + "pin 0 1 0;pin 0 2 1;pin 0 2 2;pin 1 0 3;pin 1 3 3;pin 2 3 0;");
        due.same("transpose(0, 1)", x.transpose(0, 1), 3);
        due.same("pins 0 1", Due.pins(x, 0, 1), "----");
        due.same("pins 0 2", Due.pins(x, 0, 2), "#---");
        due.same("pins 0 3", Due.pins(x, 0, 3), "-##-");
        due.badState("transpose(0, 1) over the comb", () -> x.transpose(0, 1));
        due.same("pins 0 3 stay", Due.pins(x, 0, 3), "-##-");
        due.same("transpose(0, -2)", x.transpose(0, -2), 3);
        due.same("pins 0 0", Due.pins(x, 0, 0), "#---");
        due.same("pins 0 1", Due.pins(x, 0, 1), "-##-");
        due.same("pins 0 2", Due.pins(x, 0, 2), "----");
        due.badState("transpose(0, -1) under the comb", () -> x.transpose(0, -1));
        due.badState("transpose(1, 1)", () -> x.transpose(1, 1));
        due.badState("transpose(1, -1)", () -> x.transpose(1, -1));
        due.same("transpose(1, 0)", x.transpose(1, 0), 2);
        due.same("transpose(2, -3)", x.transpose(2, -3), 1);
        due.same("pins 2 0", Due.pins(x, 2, 0), "#---");
        due.same("changes", x.undoCount(), 4);
        due.same("another tune stays", Due.pins(x, 1, 3), "---#");
        x.removePin(2, 0, 0);
        due.same("no pins by 11", x.transpose(2, 11), 0);
        due.same("no pins by -11", x.transpose(2, -11), 0);
        due.badArgument("transpose(2, 12)", () -> x.transpose(2, 12));
        due.badArgument("transpose(2, -12)", () -> x.transpose(2, -12));
        due.badArgument("transpose(1, max)", () -> x.transpose(1, Integer.MAX_VALUE));
        due.noSuch("transpose(3, 12)", () -> x.transpose(3, 12));
        due.noSuch("transpose(-1, 0)", () -> x.transpose(-1, 0));
        due.same("changes", x.undoCount(), 7);
        StringBuilder twelve = new StringBuilder("box 4 1 0;");
        for (int i = 0; i < 12; i++) {
            twelve.append("tooth 5 3 30;");
        }
        MusicBoxEditor y = Due.box(twelve + "pin 0 0 0;");
        due.same("up by 11", y.transpose(0, 11), 1);
        due.same("chord", y.chord(0, 0), 2048);
        due.same("down by 11", y.transpose(0, -11), 1);
        due.same("chord", y.chord(0, 0), 1);
    }

    private static void copyTune() {
        MusicBoxEditor x = new MusicBoxEditor();
        due.same("copyTune(0, 1)", x.copyTune(0, 1), 4);
        due.same("the pins before are gone", Due.pins(x, 1, 0), "#-------");
        due.same("pins 1 1", Due.pins(x, 1, 1), "--##----");
        due.same("the source stays", x.pinCount(0), 4);
        due.same("copyTune(2, 0)", x.copyTune(2, 0), 0);
        due.same("no pins", x.pinCount(0), 0);
        due.same("the copy is its own", x.pinCount(1), 4);
        due.badArgument("copyTune(1, 1)", () -> x.copyTune(1, 1));
        due.noSuch("copyTune(3, 3)", () -> x.copyTune(3, 3));
        due.noSuch("copyTune(3, 0)", () -> x.copyTune(3, 0));
        due.noSuch("copyTune(0, 3)", () -> x.copyTune(0, 3));
        due.noSuch("copyTune(-1, -1)", () -> x.copyTune(-1, -1));
        due.same("changes", x.undoCount(), 2);
    }

    private static void selectTune() {
        MusicBoxEditor x = new MusicBoxEditor();
        due.same("selectTune(1)", x.selectTune(1), 0);
        due.same("selectTune(1) again", x.selectTune(1), 1);
        due.same("selectTune(2)", x.selectTune(2), 1);
        due.same("selectedTune", x.selectedTune(), 2);
        due.same("changes", x.undoCount(), 3);
        due.same("the pins that play", x.notesIn(40), 0);
        for (int tune : WRONG_TUNES) {
            due.noSuch("selectTune(" + tune + ")", () -> x.selectTune(tune));
        }
        due.same("selectedTune", x.selectedTune(), 2);
        due.same("changes", x.undoCount(), 3);
    }

    private static void wrongPlaces() {
        MusicBoxEditor x = new MusicBoxEditor();
        String before = Due.state(x);
        wrongPlace("isPin", x::isPin);
        wrongPlace("distance", x::distance);
        wrongPlace("addPin", x::addPin);
        wrongPlace("removePin", x::removePin);
        wrongTune("pinCount", x::pinCount);
        wrongTune("closePins", x::closePins);
        wrongTune("longestRest", x::longestRest);
        due.same("nothing has changed", Due.state(x), before);
        due.same("no change", x.undoCount(), 0);
    }

    private static void wrongPlace(String name, Place call) {
        for (int tune : WRONG_TUNES) {
            due.noSuch(name + "(" + tune + ", 0, 0)", () -> call.at(tune, 0, 0));
        }
        for (int tooth : WRONG_TEETH) {
            due.noSuch(name + "(0, " + tooth + ", 0)", () -> call.at(0, tooth, 0));
        }
        for (int step : WRONG_STEPS) {
            due.noSuch(name + "(0, 0, " + step + ")", () -> call.at(0, 0, step));
        }
        due.noSuch(name + "(3, 3, 8)", () -> call.at(3, 3, 8));
    }

    private static void wrongTune(String name, Tune call) {
        for (int tune : WRONG_TUNES) {
            due.noSuch(name + "(" + tune + ")", () -> call.at(tune));
        }
    }
}
