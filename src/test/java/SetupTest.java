/** Promise 4 and the grammar of a setup. */
public final class SetupTest {
    private static final Due due = new Due();
    private static final String HEAD = "box 8 5 40;";
    private static final String ONE = HEAD + "tooth 5 3 30;";

    public static void main(String[] args) {
        valid();
        tokens();
        syntax();
        ranges();
        pinTwice();
        tooMany();
        newBox();
        keptBox();
        due.end();
    }

    private static void error(String setup, int code, int position) {
        MusicBoxEditor x = new MusicBoxEditor();
        String before = Due.state(x);
        Due.write(x, setup);
        due.same("load of " + setup, x.load(), code);
        due.same("code of " + setup, x.errorCode(), code);
        due.same("position in " + setup, x.errorPosition(), position);
        due.same("text after " + setup, x.truncate(0), 0);
        due.same("box after " + setup, Due.state(x), before);
    }

    private static void valid() {
        MusicBoxEditor x = Due.box("box 4 0 0;tooth 0 1 10;");
        due.same("steps", x.stepCount(), 4);
        due.same("turns", x.turnsLeft(), 0);
        due.same("vane", x.vane(), 0);
        due.same("pitch", x.soundingPitch(0), 0);
        due.same("gap", x.gap(0), 1);
        due.same("wear", x.wear(0), 0);
        due.same("bend", x.bendOf(0), 0);
        due.same("silence", x.silence(0), 99);
        MusicBoxEditor y = Due.box("box 64 20 90;tooth 60 9 999;pin 2 0 63;pin 0 0 0;");
        due.same("steps", y.stepCount(), 64);
        due.same("turns", y.turnsLeft(), 20);
        due.same("vane", y.vane(), 90);
        due.same("pitch", y.soundingPitch(0), 60);
        due.same("gap", y.gap(0), 9);
        due.same("pin", y.isPin(2, 0, 63), true);
        due.same("pin", y.isPin(0, 0, 0), true);
        StringBuilder twelve = new StringBuilder(HEAD);
        for (int i = 0; i < 12; i++) {
            twelve.append("tooth ").append(i * 5).append(" 3 30;");
        }
        MusicBoxEditor z = Due.box(twelve + "pin 1 11 7;");
        due.same("teeth", z.toothCount(), 12);
        due.same("last tooth", z.soundingPitch(11), 55);
        due.same("its pin", z.chord(1, 7), 2048);
    }

    private static void tokens() {
        MusicBoxEditor x = Due.box("\n  box8 5\n40;tooth10 3 30 ;\n\ntooth 0014 00000000000000000002 12;pin0 1 2;\n ");
        due.same("teeth", x.toothCount(), 2);
        due.same("leading zeros", x.soundingPitch(1), 14);
        due.same("gap", x.gap(1), 2);
        due.same("pin", x.isPin(0, 1, 2), true);
        error("Box 8 5 40;tooth 5 3 30;", 1, 0);
        error("box\t8 5 40;tooth 5 3 30;", 1, 3);
        error("box 8\r5 40;tooth 5 3 30;", 1, 5);
        error("box 8 5 40;\u00e9tooth 5 3 30;", 1, 11);
        error("box -8 5 40;tooth 5 3 30;", 1, 4);
        error("boxtooth 8 5 40;", 1, 0);
        error("boxz 8 5 40;", 1, 0);
        error("boxa 8 5 40;", 1, 0);
        error("box 8 5 40;tooths 5 3 30;", 1, 11);
        error("box 8 5 40;toot 5 3 30;", 1, 11);
        error("box 8 5 40;to oth 5 3 30;", 1, 11);
        error("box 8,5 40;tooth 5 3 30;", 1, 5);
        error("box 85 40;tooth 5 3 30;", 2, 4);
        error("box 8 5 4294967336;tooth 5 3 30;", 2, 8);
        error("box 18446744073709551624 5 40;tooth 5 3 30;", 2, 4);
        error("box 8 5 40;tooth 5 3 4294967326;", 2, 21);
        error("{", 1, 0);
        error("`", 1, 0);
        error("/", 1, 0);
        error(":", 1, 0);
    }

    private static void syntax() {
        error("", 1, 0);
        error("  \n", 1, 3);
        error("box", 1, 3);
        error("box ", 1, 4);
        error("8", 1, 0);
        error(";", 1, 0);
        error("tooth 5 3 30;", 1, 0);
        error("box box", 1, 4);
        error("box 8 5 ;", 1, 8);
        error("box 8 5 40 tooth 5 3 30;", 1, 11);
        error("box 8 5 40 7;", 1, 11);
        error(HEAD, 1, 11);
        error(HEAD + "  ", 1, 13);
        error(HEAD + "pin 0 0 0;", 1, 11);
        error(HEAD + ";", 1, 11);
        error(HEAD + "tooth 5 3;", 1, 20);
        error(HEAD + "tooth 5 3 30", 1, 23);
        error(HEAD + "tooth 5 3 30 pin 0 0 0;", 1, 24);
        error(ONE + ";", 1, 24);
        error(ONE + "box 8 5 40;", 1, 24);
        error(ONE + "unpin 0 0 0;", 1, 24);
        error(ONE + "pin", 1, 27);
        error(ONE + "pin 0 0;", 1, 31);
        error(ONE + "pin 0 0 0", 1, 33);
        error(ONE + "pin 0 0 0 1;", 1, 34);
        error(ONE + "pin 0 0 0;tooth 5 3 30;", 1, 34);
        error(ONE + "pin 0 0 0;(", 1, 34);
    }

    private static void ranges() {
        error("box 3 5 40;", 2, 4);
        error("box 0 5 40;", 2, 4);
        error("box 65 5 40;", 2, 4);
        error("box 8 21 40;", 2, 6);
        error("box 8 5 91;", 2, 8);
        error(HEAD + "tooth 61 3 30;", 2, 17);
        error(HEAD + "tooth 5 0 30;", 2, 19);
        error(HEAD + "tooth 5 10 30;", 2, 19);
        error(HEAD + "tooth 5 3 9;", 2, 21);
        error(HEAD + "tooth 5 3 1000;", 2, 21);
        error(ONE + "pin 3 0 0;", 2, 28);
        error(ONE + "pin 0 1 0;", 2, 30);
        error(ONE + "pin 0 0 8;", 2, 32);
        error(ONE + "tooth 5 3 30;pin 0 2 0;", 2, 43);
        error("box 4 5 40;tooth 5 3 30;pin 0 0 4;", 2, 32);
    }

    private static void pinTwice() {
        error(ONE + "pin 0 0 7;pin 0 0 7;", 3, 42);
        error(ONE + "pin 0 0 7;pin 1 0 7;pin 0 0 007", 3, 52);
        error(ONE + "pin 0 0 7;pin 0 0 8;", 2, 42);
        MusicBoxEditor x = Due.box(ONE + "tooth 6 3 30;pin 0 0 7;pin 1 0 7;pin 0 1 7;pin 0 0 6;");
        due.same("pins", x.pinCount(0), 3);
    }

    private static void tooMany() {
        StringBuilder twelve = new StringBuilder(HEAD);
        for (int i = 0; i < 12; i++) {
            twelve.append("tooth 5 3 30;");
        }
        int length = twelve.length();
        error(twelve + "tooth 5 3 30;", 4, length);
        error(twelve + " tooth", 4, length + 1);
        error(twelve + "tooths", 1, length);
        error(twelve + "pin 0 0 0;tooth 5 3 30;", 1, length + 10);
    }

    private static void newBox() {
        MusicBoxEditor x = new MusicBoxEditor();
        x.selectTune(1);
        x.play(13);
        x.bend(0, 1);
        x.replaceTooth(0);
        x.save(0);
        x.save(1);
        x.writeComb();
        x.selectTune(0);
        due.same("a forecast ahead of load", x.squeaksIn(30) > 0, true);
        Due.write(x, "box 6 7 10;tooth 20 1 10;pin 0 0 0;");
        due.same("load", x.load(), 0);
        due.same("undo count", x.undoCount(), 0);
        due.badState("undo", x::undo);
        due.noElement("restore(0)", () -> x.restore(0));
        due.noElement("restore(1)", () -> x.restore(1));
        due.same("notes", x.noteCount(), 0);
        due.same("squeaks", x.squeakCount(), 0);
        due.same("played", x.stepsPlayed(), 0);
        due.same("broken", x.brokenTeeth(), 0);
        due.same("contradictions", x.contradictions(), 0);
        due.same("tune", x.selectedTune(), 0);
        due.same("position", x.position(), 0);
        due.same("pins of the box before", x.pinCount(1), 0);
        due.same("silence", x.silence(0), 99);
        due.same("the output stays", Due.output(x), "10 14 17");
        due.noSuch("tooth of the box before", () -> x.wear(1));
    }

    private static void keptBox() {
        MusicBoxEditor x = new MusicBoxEditor();
        x.save(1);
        x.play(3);
        String before = Due.state(x);
        Due.write(x, "box 6 7 10;tooth 20 1 10;pin 0 0 0;pin 0 0 0;");
        due.same("load", x.load(), 3);
        due.same("box", Due.state(x), before);
        due.same("undo count", x.undoCount(), 1);
        due.same("undo", x.undo(), 0);
        due.same("played", x.stepsPlayed(), 0);
        due.same("restore", x.restore(1), 0);
    }
}
