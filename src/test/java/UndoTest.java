/** Promises 56 to 59: undo and the slots. */
public final class UndoTest {
    private static final Due due = new Due();

    private interface Change {
        void on(MusicBoxEditor x);
    }

    public static void main(String[] args) {
        everyChange();
        lastEight();
        whatStays();
        whatThrows();
        slots();
        slotsAndUndo();
        due.end();
    }

    private static void everyChange() {
        undone("addPin", x -> x.addPin(0, 0, 1));
        undone("removePin", x -> x.removePin(0, 0, 0));
        undone("shift", x -> x.shift(0, 3));
        undone("transpose", x -> x.transpose(1, 2));
        undone("copyTune", x -> x.copyTune(0, 1));
        undone("selectTune", x -> x.selectTune(2));
        undone("setGap", x -> x.setGap(1, 9));
        undone("bend", x -> x.bend(2, 2));
        undone("replaceTooth", x -> x.replaceTooth(1));
        undone("setVane", x -> x.setVane(7));
        undone("wind", x -> x.wind(3));
        undone("play", x -> x.play(21));
        undone("runScript", x -> Due.script(x, "vane 8;play 9;tune 1;"));
    }

    private static void undone(String name, Change change) {
        MusicBoxEditor x = new MusicBoxEditor();
        x.play(12);
        x.bend(0, 1);
        String before = Due.state(x);
        change.on(x);
        due.same(name + " changes something", Due.state(x).equals(before), false);
        due.same(name + " is one change", x.undoCount(), 3);
        due.same("undo of " + name, x.undo(), 2);
        due.same("state after the undo of " + name, Due.state(x), before);
        due.same("count after the undo of " + name, x.undoCount(), 2);
    }

    private static void lastEight() {
        MusicBoxEditor x = new MusicBoxEditor();
        for (int i = 1; i <= 20; i++) {
            x.setVane(i);
            due.same("undoCount after " + i, x.undoCount(), Math.min(8, i));
        }
        for (int i = 7; i >= 0; i--) {
            due.same("undo to " + i, x.undo(), i);
            due.same("vane", x.vane(), 12 + i);
        }
        due.badState("a ninth undo", x::undo);
        due.same("vane", x.vane(), 12);
        x.setVane(50);
        x.setVane(60);
        due.same("undo", x.undo(), 1);
        due.same("vane", x.vane(), 50);
        x.setVane(70);
        due.same("undo of the new change", x.undo(), 1);
        due.same("vane", x.vane(), 50);
        due.same("undo", x.undo(), 0);
        due.same("vane", x.vane(), 12);
    }

    private static void whatStays() {
        MusicBoxEditor x = new MusicBoxEditor();
        x.save(0);
        x.play(5);
        x.save(0);
        Due.write(x, "what");
        x.load();
        Due.write(x, "abc");
        x.writeComb();
        due.same("undo", x.undo(), 0);
        due.same("code", x.errorCode(), 1);
        due.same("position", x.errorPosition(), 0);
        due.same("output", Due.output(x), "10 14 17");
        due.same("text", x.truncate(0), 3);
        due.same("the slot", x.restore(0), 5);
        due.same("a script", Due.script(x, "vane 3;"), 1);
        due.same("undo", x.undo(), 0);
        due.same("no error", x.errorCode(), 0);
    }

    private static void whatThrows() {
        MusicBoxEditor x = new MusicBoxEditor();
        for (int i = 1; i <= 9; i++) {
            x.setVane(i);
        }
        String before = Due.state(x);
        due.badState("addPin", () -> x.addPin(0, 0, 0));
        due.badState("removePin", () -> x.removePin(0, 0, 1));
        due.badArgument("shift", () -> x.shift(0, 64));
        due.badState("transpose", () -> x.transpose(0, 1));
        due.badArgument("copyTune", () -> x.copyTune(0, 0));
        due.noSuch("selectTune", () -> x.selectTune(3));
        due.badArgument("setGap", () -> x.setGap(0, 0));
        due.badArgument("bend", () -> x.bend(0, 0));
        due.noSuch("replaceTooth", () -> x.replaceTooth(3));
        due.badArgument("setVane", () -> x.setVane(91));
        due.badState("wind", () -> x.wind(20));
        due.badArgument("play", () -> x.play(0));
        due.same("a wrong script", Due.script(x, "vane 3"), -1);
        due.same("state", Due.state(x), before);
        due.same("count", x.undoCount(), 8);
        for (int i = 8; i >= 1; i--) {
            x.undo();
            due.same("vane", x.vane(), i);
        }
    }

    private static void slots() {
        MusicBoxEditor x = new MusicBoxEditor();
        due.noSuch("save(-1)", () -> x.save(-1));
        due.noSuch("save(2)", () -> x.save(2));
        due.noSuch("save(max)", () -> x.save(Integer.MAX_VALUE));
        due.noSuch("restore(-1)", () -> x.restore(-1));
        due.noSuch("restore(2)", () -> x.restore(2));
        due.noElement("restore(0)", () -> x.restore(0));
        String first = Due.state(x);
        due.same("save(0)", x.save(0), 0);
        due.noElement("restore(1)", () -> x.restore(1));
        x.play(11);
        x.bend(0, 2);
        x.replaceTooth(1);
        x.shift(0, 1);
        x.selectTune(1);
        String second = Due.state(x);
        due.same("save(1)", x.save(1), 3);
        due.same("save is no change", x.undoCount(), 5);
        due.same("restore(0)", x.restore(0), 0);
        due.same("state", Due.state(x), first);
        due.same("nothing can be undone", x.undoCount(), 0);
        due.badState("undo", x::undo);
        x.play(6);
        due.same("restore(1)", x.restore(1), 3);
        due.same("state", Due.state(x), second);
        due.same("restore(0) again", x.restore(0), 0);
        due.same("the slot keeps it", Due.state(x), first);
        x.play(2);
        due.same("save replaces", x.save(1), 2);
        x.play(2);
        due.same("restore(1)", x.restore(1), 2);
    }

    private static void slotsAndUndo() {
        MusicBoxEditor x = new MusicBoxEditor();
        x.play(4);
        x.save(0);
        due.same("undo", x.undo(), 0);
        due.same("position", x.position(), 0);
        x.setVane(9);
        due.same("restore(0)", x.restore(0), 4);
        x.setVane(10);
        due.same("a change after restore", x.undoCount(), 1);
        due.same("undo", x.undo(), 0);
        due.same("back to what was restored", x.position(), 4);
        due.same("vane", x.vane(), 40);
    }
}
