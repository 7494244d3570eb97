/** The edges of promises 56 to 59 and of changes and undo, sentence by sentence. */
public final class EdgeUndoTest {
    private static final Due due = new Due();
    private static final String BOX = "box 4 5 40;tooth 10 3 30;tooth 14 2 12;pin 0 0 0;pin 0 1 1;pin 0 1 2;pin 1 0 1;";

    private interface Use {
        void of(MusicBoxEditor x);
    }

    public static void main(String[] args) {
        undoCountAtTheEnds();
        olderIsForgotten();
        undoWithoutChange();
        undoAndChangeAgain();
        undoOfEachChange();
        undoRestoresAll();
        undoLeavesTheText();
        undoLeavesTheError();
        undoLeavesTheOutput();
        undoLeavesTheSlots();
        whatIsNoChange();
        slotRange();
        emptySlot();
        saveReplaces();
        saveIsNoChange();
        slotKeepsItsOwn();
        restoreLeavesNothingToUndo();
        restoreOfEverything();
        restoreLeavesTheRest();
        due.end();
    }

    private static void undoCountAtTheEnds() {
        due.about("the number of changes that can be undone. @return 0 to 8");
        MusicBoxEditor x = new MusicBoxEditor();
        due.same("undoCount of a new object", x.undoCount(), 0);
        for (int i = 1; i <= 25; i++) {
            x.setVane(i);
            due.same("undoCount behind " + i, x.undoCount(), i < 8 ? i : 8);
        }
        for (int i = 7; i >= 0; i--) {
            due.same("undo", x.undo(), i);
            due.same("undoCount", x.undoCount(), i);
        }
    }

    private static void olderIsForgotten() {
        due.about("At most 8 changes can be undone; an older one is forgotten");
        for (int changes = 7; changes <= 17; changes++) {
            MusicBoxEditor x = new MusicBoxEditor();
            for (int i = 1; i <= changes; i++) {
                x.setVane(40 + i);
            }
            int most = Math.min(8, changes);
            for (int i = 1; i <= most; i++) {
                due.same("undo " + i + " of " + changes, x.undo(), most - i);
                due.same("vane behind undo " + i + " of " + changes, x.vane(), 40 + changes - i);
            }
            due.badState("one undo more of " + changes, x::undo);
            due.same("vane behind it", x.vane(), 40 + changes - most);
        }
    }

    private static void undoWithoutChange() {
        due.about("Throws IllegalStateException if no change can be undone");
        MusicBoxEditor x = new MusicBoxEditor();
        due.badState("undo of a new object", x::undo);
        x.setVane(1);
        due.same("undo of one change", x.undo(), 0);
        due.badState("undo of none", x::undo);
        due.badState("undo of none again", x::undo);
        due.same("vane", x.vane(), 40);
        due.same("undoCount", x.undoCount(), 0);
        due.same("a change", x.setVane(2), 40);
        due.same("undoCount", x.undoCount(), 1);
        Due.write(x, BOX);
        x.load();
        due.badState("undo behind a load", x::undo);
    }

    private static void undoAndChangeAgain() {
        due.about("Undoes the latest change");
        MusicBoxEditor x = new MusicBoxEditor();
        for (int i = 1; i <= 10; i++) {
            x.setVane(i);
        }
        due.same("undo", x.undo(), 7);
        due.same("undo", x.undo(), 6);
        due.same("vane", x.vane(), 8);
        x.setVane(50);
        due.same("undoCount", x.undoCount(), 7);
        x.setVane(51);
        due.same("undoCount", x.undoCount(), 8);
        x.setVane(52);
        due.same("undoCount", x.undoCount(), 8);
        int[] want = {51, 50, 8, 7, 6, 5, 4, 3};
        for (int i = 0; i < 8; i++) {
            due.same("undo", x.undo(), 7 - i);
            due.same("vane", x.vane(), want[i]);
        }
        due.badState("undo", x::undo);
    }

    private static void undone(String name, Use change) {
        MusicBoxEditor x = Due.box(BOX);
        x.play(6);
        x.bend(0, 1);
        String before = Due.state(x);
        change.of(x);
        due.same(name + " changes something", Due.state(x).equals(before), false);
        due.same(name + " is one change", x.undoCount(), 3);
        due.same("undo of " + name, x.undo(), 2);
        due.same("state behind undo of " + name, Due.state(x), before);
        change.of(x);
        due.same(name + " once more is one change", x.undoCount(), 3);
        x.undo();
        due.same("state behind undo of " + name + " once more", Due.state(x), before);
    }

    private static void undoOfEachChange() {
        due.about("The methods that are marked as changes are recorded");
        undone("addPin", x -> x.addPin(2, 1, 3));
        undone("removePin", x -> x.removePin(0, 0, 0));
        undone("shift", x -> x.shift(0, 3));
        undone("transpose", x -> x.transpose(1, 1));
        undone("copyTune", x -> x.copyTune(0, 2));
        undone("selectTune", x -> x.selectTune(1));
        undone("setGap", x -> x.setGap(1, 9));
        undone("bend", x -> x.bend(0, -2));
        undone("replaceTooth", x -> x.replaceTooth(1));
        undone("setVane", x -> x.setVane(90));
        undone("wind", x -> x.wind(16));
        undone("play", x -> x.play(300));
        undone("play of one step", x -> x.play(1));
        undone("runScript", x -> Due.script(x, "vane 8;play 9;tune 1;mend 1;pin 2 0 0;"));
    }

    private static void undoRestoresAll() {
        due.about("Undoes the latest change");
        MusicBoxEditor x = Due.box(BOX);
        String[] states = new String[8];
        Use[] changes = {y -> y.play(7), y -> y.bend(0, -2), y -> y.selectTune(1), y -> y.replaceTooth(0), y -> y.setGap(1, 9)};
        for (int i = 0; i < changes.length; i++) {
            states[i] = Due.state(x);
            changes[i].of(x);
        }
        for (int i = changes.length - 1; i >= 0; i--) {
            due.same("undo", x.undo(), i);
            due.same("state behind undo to " + i, Due.state(x), states[i]);
        }
    }

    private static void undoLeavesTheText() {
        due.about("The text buffer stays as it is");
        MusicBoxEditor x = new MusicBoxEditor();
        Due.write(x, "vane 7");
        x.setVane(5);
        Due.write(x, "7;");
        due.same("undo", x.undo(), 0);
        due.same("the length of the text", x.append(0, 0, 0, 0, 0), 8);
        due.same("runScript", x.runScript(), 1);
        due.same("vane", x.vane(), 77);
        due.same("undo of the script", x.undo(), 0);
        due.same("its text does not come back", x.truncate(0), 0);
        due.same("vane", x.vane(), 40);
    }

    private static void undoLeavesTheError() {
        due.about("the error code and position stay as they are");
        MusicBoxEditor x = new MusicBoxEditor();
        x.setVane(5);
        due.same("a wrong script", Due.script(x, "vane 91;"), -1);
        due.same("undo", x.undo(), 0);
        due.same("errorCode", x.errorCode(), 2);
        due.same("errorPosition", x.errorPosition(), 5);
        due.same("a script", Due.script(x, "vane 9;"), 1);
        due.same("undo", x.undo(), 0);
        due.same("errorCode", x.errorCode(), 0);
        due.same("errorPosition", x.errorPosition(), -1);
    }

    private static void undoLeavesTheOutput() {
        due.about("the output stays as it is");
        MusicBoxEditor x = new MusicBoxEditor();
        x.writePins(0, 1);
        x.removePin(0, 1, 3);
        x.writeComb();
        due.same("undo", x.undo(), 0);
        due.same("output", Due.output(x), "10 14 17");
        MusicBoxEditor y = new MusicBoxEditor();
        y.setVane(3);
        y.writeComb();
        y.undo();
        due.same("output", Due.output(y), "10 14 17");
    }

    private static void undoLeavesTheSlots() {
        due.about("the slots stay as they are");
        MusicBoxEditor x = new MusicBoxEditor();
        x.setVane(1);
        x.save(0);
        x.setVane(2);
        x.save(1);
        x.setVane(3);
        x.undo();
        x.undo();
        x.undo();
        due.same("vane", x.vane(), 40);
        x.restore(0);
        due.same("slot 0", x.vane(), 1);
        x.restore(1);
        due.same("slot 1", x.vane(), 2);
        MusicBoxEditor y = new MusicBoxEditor();
        y.save(0);
        y.setVane(1);
        y.save(0);
        y.undo();
        y.restore(0);
        due.same("a save is not undone", y.vane(), 1);
        due.noElement("a slot that was empty", () -> y.restore(1));
    }

    private static void notChange(String name, Use call) {
        MusicBoxEditor x = Due.box(BOX);
        x.setVane(1);
        x.setVane(2);
        call.of(x);
        due.same("undoCount behind " + name, x.undoCount(), 2);
        due.same("undo behind " + name, x.undo(), 1);
        due.same("vane behind " + name, x.vane(), 1);
        due.same("undo behind " + name, x.undo(), 0);
        due.same("vane behind " + name, x.vane(), 40);
    }

    private static void whatIsNoChange() {
        due.about("The methods that are marked as changes are recorded");
        notChange("append", x -> x.append(1, 2, 3, 4, 5));
        notChange("truncate", x -> x.truncate(0));
        notChange("load with an error", x -> x.load());
        notChange("runScript with an error", x -> Due.script(x, ";"));
        notChange("errorCode", x -> x.errorCode());
        notChange("errorPosition", x -> x.errorPosition());
        notChange("stepCount and others", Due::state);
        notChange("isPin", x -> x.isPin(0, 0, 0));
        notChange("pinCount", x -> x.pinCount(0));
        notChange("distance", x -> x.distance(0, 0, 0));
        notChange("closePins", x -> x.closePins(0));
        notChange("longestRest", x -> x.longestRest(0));
        notChange("secondsPerStep", x -> x.secondsPerStep());
        notChange("secondsPerStepBits", x -> x.secondsPerStepBits());
        notChange("meanPitch", x -> x.meanPitch(0));
        notChange("density", x -> x.density(0));
        notChange("stepsUntilBroken", x -> x.stepsUntilBroken(1));
        notChange("notesIn", x -> x.notesIn(300));
        notChange("squeaksIn", x -> x.squeaksIn(300));
        notChange("writePins", x -> x.writePins(0, 0));
        notChange("writeComb", x -> x.writeComb());
        notChange("outputByte", x -> x.outputByte(0));
        notChange("save", x -> x.save(0));
    }

    private static void slotRange() {
        due.about("IndexOutOfBoundsException if there is no such slot; slot: 0 or 1");
        MusicBoxEditor x = new MusicBoxEditor();
        for (int slot : new int[] {-1, 2, 3, Integer.MIN_VALUE, Integer.MAX_VALUE}) {
            due.noSuch("save(" + slot + ")", () -> x.save(slot));
            due.noSuch("restore(" + slot + ")", () -> x.restore(slot));
        }
        due.noElement("restore(0)", () -> x.restore(0));
        due.noElement("restore(1)", () -> x.restore(1));
        due.same("save(0)", x.save(0), 0);
        due.same("save(1)", x.save(1), 0);
        due.same("restore(0)", x.restore(0), 0);
        due.same("restore(1)", x.restore(1), 0);
        due.noSuch("restore(2) with full slots", () -> x.restore(2));
        due.noSuch("restore(-1) with full slots", () -> x.restore(-1));
    }

    private static void emptySlot() {
        due.about("NoSuchElementException if the slot is empty");
        MusicBoxEditor x = new MusicBoxEditor();
        x.play(3);
        due.noElement("restore(0)", () -> x.restore(0));
        due.noElement("restore(1)", () -> x.restore(1));
        due.same("save(1)", x.save(1), 3);
        due.noElement("the other slot", () -> x.restore(0));
        due.same("undoCount behind a refused restore", x.undoCount(), 1);
        due.same("restore(1)", x.restore(1), 3);
        MusicBoxEditor y = new MusicBoxEditor();
        y.save(0);
        due.noElement("the other slot", () -> y.restore(1));
        due.same("restore(0)", y.restore(0), 0);
    }

    private static void saveReplaces() {
        due.about("Saves everything that undo restores in a slot. It replaces what the slot contained");
        MusicBoxEditor x = new MusicBoxEditor();
        due.same("save(0)", x.save(0), 0);
        x.play(3);
        due.same("save(0) again", x.save(0), 3);
        x.play(3);
        due.same("save(1)", x.save(1), 6);
        x.play(1);
        due.same("restore(0)", x.restore(0), 3);
        due.same("stepsPlayed", x.stepsPlayed(), 3);
        due.same("restore(1)", x.restore(1), 6);
        due.same("stepsPlayed", x.stepsPlayed(), 6);
        due.about("Returns the position");
        x.play(1);
        due.same("save at the last step", x.save(0), 7);
        x.play(1);
        due.same("save behind it", x.save(0), 0);
        due.same("restore(0)", x.restore(0), 0);
        due.same("turnsLeft", x.turnsLeft(), 4);
    }

    private static void saveIsNoChange() {
        due.about("Saves everything that undo restores in a slot");
        MusicBoxEditor x = new MusicBoxEditor();
        for (int i = 1; i <= 8; i++) {
            x.setVane(i);
        }
        String before = Due.state(x);
        x.save(0);
        x.save(1);
        due.same("state", Due.state(x), before);
        due.same("undoCount", x.undoCount(), 8);
        for (int i = 7; i >= 0; i--) {
            due.same("undo", x.undo(), i);
            due.same("vane", x.vane(), i == 0 ? 40 : i);
        }
    }

    private static void slotKeepsItsOwn() {
        due.about("Restores what a slot contains. The slot keeps it");
        MusicBoxEditor x = Due.box(BOX);
        x.play(2);
        String saved = Due.state(x);
        x.save(0);
        x.play(3);
        x.bend(0, 3);
        x.addPin(2, 1, 3);
        due.same("restore(0)", x.restore(0), 2);
        due.same("state", Due.state(x), saved);
        x.replaceTooth(1);
        x.shift(0, 1);
        x.setGap(0, 9);
        x.selectTune(2);
        x.setVane(0);
        x.wind(3);
        due.same("restore(0) again", x.restore(0), 2);
        due.same("state", Due.state(x), saved);
        due.noElement("the other slot", () -> x.restore(1));
        due.same("the saved box in the other slot", x.save(1), 2);
        x.play(300);
        due.same("restore(1)", x.restore(1), 2);
        due.same("state", Due.state(x), saved);
    }

    private static void restoreLeavesNothingToUndo() {
        due.about("Afterwards no change can be undone");
        MusicBoxEditor x = new MusicBoxEditor();
        for (int i = 1; i <= 9; i++) {
            x.setVane(i);
        }
        x.save(1);
        due.same("restore", x.restore(1), 0);
        due.same("undoCount", x.undoCount(), 0);
        due.badState("undo", x::undo);
        due.same("vane", x.vane(), 9);
        x.setVane(20);
        due.same("undoCount", x.undoCount(), 1);
        due.same("undo", x.undo(), 0);
        due.same("vane", x.vane(), 9);
        due.badState("undo", x::undo);
        due.same("restore without changes", x.restore(1), 0);
        due.badState("undo", x::undo);
    }

    private static void restoreOfEverything() {
        due.about("Saves everything that undo restores");
        MusicBoxEditor x = Due.box(BOX);
        x.play(6);
        x.bend(0, 2);
        x.replaceTooth(1);
        x.setGap(1, 9);
        x.shift(0, 1);
        x.selectTune(1);
        x.setVane(3);
        x.wind(7);
        String saved = Due.state(x);
        due.same("save(0)", x.save(0), 2);
        x.play(9);
        x.bend(0, -3);
        x.replaceTooth(0);
        x.setGap(1, 1);
        x.copyTune(1, 0);
        x.selectTune(2);
        x.setVane(90);
        due.same("restore(0)", x.restore(0), 2);
        due.same("state", Due.state(x), saved);
        due.same("contradictions", x.contradictions(), 0);
        due.same("play", x.play(300), 42);
        due.same("contradictions behind playing", x.contradictions(), 0);
    }

    private static void restoreLeavesTheRest() {
        due.about("Restores what a slot contains");
        MusicBoxEditor x = new MusicBoxEditor();
        x.save(0);
        x.setVane(7);
        x.save(1);
        x.writePins(0, 0);
        due.same("a wrong script", Due.script(x, "tune 3;"), -1);
        Due.write(x, "vane 55;");
        due.same("restore(0)", x.restore(0), 0);
        due.same("output", Due.output(x), "#-------");
        due.same("errorCode", x.errorCode(), 2);
        due.same("errorPosition", x.errorPosition(), 5);
        due.same("the text", x.runScript(), 1);
        due.same("vane", x.vane(), 55);
        due.same("restore(1), which another restore leaves", x.restore(1), 0);
        due.same("vane", x.vane(), 7);
    }
}
