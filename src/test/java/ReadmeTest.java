/** What README.md shows: its calls answer what it says, and its texts have no error. */
public final class ReadmeTest {
    private static final Due due = new Due();

    public static void main(String[] args) {
        calls();
        texts();
        errors();
        due.end();
    }

    private static void calls() {
        MusicBoxEditor x = new MusicBoxEditor();
        due.same("addPin", x.addPin(0, 0, 6), 5);
        due.same("play", x.play(12), 12);
        due.same("noteCount", x.noteCount(), 5);
        due.same("undo", x.undo(), 1);
        due.same("append", x.append(0x76616e65, 0x20333b00, 0, 0, 0), 7);
        due.same("runScript", x.runScript(), 1);
        due.same("errorCode", x.errorCode(), 0);
        due.same("vane", x.vane(), 3);
        due.same("writePins", x.writePins(0, 1), 8);
        due.same("outputByte", x.outputByte(2), '#');
        due.same("the output", Due.output(x), "--#!----");
    }

    private static void texts() {
        MusicBoxEditor x = Due.box("box 8 5 40; tooth 10 3 30; tooth 14 2 12; pin 0 0 0; pin 0 1 2;\n");
        due.same("toothCount", x.toothCount(), 2);
        due.same("the script", Due.script(x, "tune 1; repeat 2 (play 8; bend 0 up 1;); mend 0;\n"), 6);
        due.same("stepsPlayed", x.stepsPlayed(), 16);
        due.same("bendOf", x.bendOf(0), 0);
        due.same("undo takes back the script", x.undo(), 0);
        due.same("stepsPlayed", x.stepsPlayed(), 0);
    }

    private static void errors() {
        MusicBoxEditor x = new MusicBoxEditor();
        Due.write(x, "box 8 5 91;");
        due.same("load", x.load(), MusicBoxEditor.OUT_OF_RANGE);
        due.same("errorPosition", x.errorPosition(), 8);
        due.same("the text is empty", x.append(0, 0, 0, 0, 0), 0);
        due.same("vane", x.vane(), 40);
        due.noSuch("a tooth", () -> x.wear(3));
        due.badArgument("an angle", () -> x.setVane(91));
        due.badState("a pin twice", () -> x.addPin(0, 0, 0));
        due.noElement("no pin", () -> x.distance(0, 0, 1));
        due.noElement("an empty slot", () -> x.restore(0));
    }
}
