/** Promises 1, 2, 3, 6 and 7: a new object, the text buffer, and the error of the latest text. */
public final class TextTest {
    private static final Due due = new Due();

    public static void main(String[] args) {
        newObject();
        append();
        appendLimit();
        truncate();
        errors();
        due.end();
    }

    private static void newObject() {
        MusicBoxEditor x = new MusicBoxEditor();
        MusicBoxEditor same = Due.box("box 8 5 40; tooth 10 3 30; tooth 14 2 12; tooth 17 4 100; pin 0 0 0; "
                + "pin 0 1 2; pin 0 2 4; pin 0 1 3; pin 1 0 1; pin 1 0 5;");
        due.same("state of a new object", Due.state(x), Due.state(same));
        due.same("steps", x.stepCount(), 8);
        due.same("teeth", x.toothCount(), 3);
        due.same("turns", x.turnsLeft(), 5);
        due.same("vane", x.vane(), 40);
        due.same("pins 0 0", Due.pins(x, 0, 0), "#-------");
        due.same("pins 0 1", Due.pins(x, 0, 1), "--##----");
        due.same("pins 0 2", Due.pins(x, 0, 2), "----#---");
        due.same("pins 1 0", Due.pins(x, 1, 0), "-#---#--");
        due.same("pins 2", x.pinCount(2), 0);
        due.same("output", x.outputByte(0), -1);
        due.same("text", x.truncate(0), 0);
        due.same("undo count", x.undoCount(), 0);
        due.same("error code", x.errorCode(), 0);
        due.same("error position", x.errorPosition(), -1);
        due.noElement("restore(0)", () -> x.restore(0));
        due.noElement("restore(1)", () -> x.restore(1));
        due.same("three pitches", x.writeComb(), 8);
        due.same("comb", Due.output(x), "10 14 17");
        due.same("gap 0", x.gap(0), 3);
        due.same("gap 1", x.gap(1), 2);
        due.same("gap 2", x.gap(2), 4);
        x.bend(1, 1);
        x.bend(1, 1);
        x.bend(1, 1);
        due.same("strength 12 is not reached by 9", x.isBroken(1), false);
        x.bend(1, -1);
        due.same("strength 12 is reached by 12", x.isBroken(1), true);
    }

    private static void append() {
        MusicBoxEditor x = new MusicBoxEditor();
        due.same("append of nothing", x.append(0, 0, 0, 0, 0), 0);
        due.same("append of one byte in each parameter", x.append(1, 0x100, 0x10000, 0x1000000, -0x80000000), 5);
        due.same("append of all bytes", x.append(-1, -1, -1, -1, -1), 25);
        due.same("append with zeros between", x.append(0x41004200, 0x00430044, 0, 0, 0x00450000), 30);
        x.truncate(0);
        // "box 4 0 0;tooth 9 1 10;" in an order that only the most significant byte first gives
        x.append(0x626f7820, 0x34203020, 0x303b0000, 0x746f6f74, 0x68203920);
        due.same("second part", x.append(0x31203130, 0x0000003b, 0, 0, 0), 23);
        due.same("load", x.load(), 0);
        due.same("the order of bytes", x.soundingPitch(0), 9);
        due.same("load empties", x.append(0x61000000, 0, 0, 0, 0), 1);
        due.same("load of a wrong text", x.load(), 1);
        due.same("load with an error empties too", x.truncate(0), 0);
        due.same("bytes above 127", x.append(0xff80fe81, 0, 0, 0, 0), 4);
    }

    private static void appendLimit() {
        MusicBoxEditor x = new MusicBoxEditor();
        for (int i = 1; i <= 39; i++) {
            due.same("append " + i, x.append(-1, -1, -1, -1, -1), 20L * i);
        }
        due.badState("21 over 780", () -> {
            x.append(-1, -1, -1, -1, 0x01010101);
            x.append(1, 0, 0, 0, 0);
        });
        due.same("an append that throws adds nothing", x.append(0, 0, 0, 0, 0), 800);
        due.same("truncate", x.truncate(799), 1);
        due.badState("two over 799", () -> x.append(0, 0, 0, 0, 0x01000001));
        due.same("still 799", x.append(0, 0, 0, 0, 0), 799);
        due.same("one over 799", x.append(0, 0, 0, 0, 0x00010000), 800);
        due.badState("one over 800 in a", () -> x.append(1, 0, 0, 0, 0));
        due.badState("one over 800 in b", () -> x.append(0, 1, 0, 0, 0));
        due.badState("one over 800 in c", () -> x.append(0, 0, 1, 0, 0));
        due.badState("one over 800 in d", () -> x.append(0, 0, 0, 1, 0));
        due.badState("one over 800 in e", () -> x.append(0, 0, 0, 0, 1));
        due.same("none over 800", x.append(0, 0, 0, 0, 0), 800);
    }

    private static void truncate() {
        MusicBoxEditor x = new MusicBoxEditor();
        due.badArgument("truncate(1) of an empty text", () -> x.truncate(1));
        due.same("truncate(0) of an empty text", x.truncate(0), 0);
        Due.write(x, "box 8 2");
        due.badArgument("truncate(-1)", () -> x.truncate(-1));
        due.badArgument("truncate(8)", () -> x.truncate(8));
        due.badArgument("truncate(min)", () -> x.truncate(Integer.MIN_VALUE));
        due.badArgument("truncate(max)", () -> x.truncate(Integer.MAX_VALUE));
        due.same("truncate(7)", x.truncate(7), 0);
        due.same("truncate(5)", x.truncate(5), 2);
        due.same("the length afterwards", x.append(0, 0, 0, 0, 0), 5);
        Due.write(x, " 1 2;tooth 3 4 50;");
        due.same("load of what is left", x.load(), 0);
        due.same("turns", x.turnsLeft(), 1);
        due.same("truncate is no change", x.undoCount(), 0);
    }

    private static void errors() {
        MusicBoxEditor x = new MusicBoxEditor();
        Due.write(x, "box 3");
        due.same("load", x.load(), 2);
        due.same("code", x.errorCode(), 2);
        due.same("position", x.errorPosition(), 4);
        due.same("an empty script", x.runScript(), 0);
        due.same("code after a script", x.errorCode(), 0);
        due.same("position after a script", x.errorPosition(), -1);
        due.same("a wrong script", Due.script(x, " unpin;"), -1);
        due.same("code of the script", x.errorCode(), 1);
        due.same("position of the script", x.errorPosition(), 6);
        x.append(1, 2, 3, 4, 5);
        x.play(3);
        x.save(0);
        x.restore(0);
        due.badState("undo", x::undo);
        due.same("code stays", x.errorCode(), 1);
        due.same("position stays", x.errorPosition(), 6);
        x.truncate(0);
        Due.write(x, "box 4 0 0;tooth 9 1 10;");
        due.same("load", x.load(), 0);
        due.same("code after load", x.errorCode(), 0);
        due.same("position after load", x.errorPosition(), -1);
    }
}
