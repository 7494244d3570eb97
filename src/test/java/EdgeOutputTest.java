/** The edges of promises 53 to 55, sentence by sentence. */
public final class EdgeOutputTest {
    private static final Due due = new Due();

    public static void main(String[] args) {
        emptyOutput();
        writePinsOfEachKind();
        writePinsOfTheShortestAndLongest();
        writePinsOfWrongPlaces();
        writeCombOfOneAndTwelve();
        writeCombOfEachPitch();
        writeCombOfBrokenTeeth();
        outputIsReplaced();
        outputByteAtTheEnds();
        outputIsNoChange();
        outputIsAsItWasWritten();
        due.end();
    }

    private static void emptyOutput() {
        due.about("NONE if the output has no byte with this index");
        MusicBoxEditor x = new MusicBoxEditor();
        for (int index : new int[] {0, 1, -1, 63, 64, Integer.MIN_VALUE, Integer.MAX_VALUE}) {
            due.same("outputByte(" + index + ") of a new object", x.outputByte(index), -1);
        }
    }

    private static void pins(MusicBoxEditor x, int tune, int tooth, String want) {
        due.same("writePins(" + tune + ", " + tooth + ")", x.writePins(tune, tooth), want.length());
        due.same("output of " + tune + ", " + tooth, Due.output(x), want);
    }

    private static void writePinsOfEachKind() {
        due.about("an exclamation mark if there is a close pin, a number sign if there is another pin, or a hyphen");
        MusicBoxEditor x = Due.box("box 8 2 0;tooth 5 3 30;tooth 5 9 30;pin 0 0 0;pin 0 0 2;pin 0 0 5;pin 0 1 7;pin 1 0 3;pin 1 1 1;");
        pins(x, 0, 0, "#-!--#--");
        pins(x, 0, 1, "-------!");
        pins(x, 1, 0, "---#----");
        pins(x, 1, 1, "-!------");
        pins(x, 2, 0, "--------");
        x.setGap(0, 4);
        pins(x, 0, 0, "!-!--!--");
        x.setGap(0, 1);
        pins(x, 0, 0, "#-#--#--");
        x.setGap(1, 8);
        pins(x, 0, 1, "-------#");
        x.addPin(0, 1, 0);
        pins(x, 0, 1, "!------!");
        x.setGap(1, 7);
        pins(x, 0, 1, "!------#");
        due.same("byte 33", x.outputByte(0), 33);
        due.same("byte 45", x.outputByte(1), 45);
        x.setGap(1, 1);
        pins(x, 0, 1, "#------#");
        due.same("byte 35", x.outputByte(0), 35);
    }

    private static void writePinsOfTheShortestAndLongest() {
        due.about("Each step, in ascending order. Returns the number of bytes of the output");
        pins(Due.box("box 4 2 0;tooth 5 1 30;pin 0 0 0;pin 0 0 3;"), 0, 0, "#--#");
        pins(Due.box("box 4 2 0;tooth 5 2 30;pin 0 0 0;pin 0 0 3;"), 0, 0, "!--#");
        MusicBoxEditor x = Due.box("box 64 2 0;tooth 5 2 30;pin 2 0 63;pin 2 0 0;pin 2 0 31;pin 2 0 32;");
        pins(x, 2, 0, "!" + Due.times(30, "-") + "#!" + Due.times(30, "-") + "#");
        due.same("outputByte(63)", x.outputByte(63), 35);
        due.same("outputByte(64)", x.outputByte(64), -1);
        for (int step = 0; step < 64; step++) {
            x.addPin(1, 0, step);
        }
        pins(x, 1, 0, Due.times(64, "!"));
        x.setGap(0, 1);
        pins(x, 1, 0, Due.times(64, "#"));
    }

    private static void writePinsOfWrongPlaces() {
        due.about("IndexOutOfBoundsException if there is no such tune or tooth");
        MusicBoxEditor x = new MusicBoxEditor();
        x.writeComb();
        due.noSuch("tune 3", () -> x.writePins(3, 0));
        due.noSuch("tune -1", () -> x.writePins(-1, 0));
        due.noSuch("tooth 3", () -> x.writePins(0, 3));
        due.noSuch("tooth 12", () -> x.writePins(0, 12));
        due.noSuch("tooth -1", () -> x.writePins(0, -1));
        due.noSuch("both", () -> x.writePins(3, 3));
        due.noSuch("both", () -> x.writePins(Integer.MIN_VALUE, Integer.MAX_VALUE));
        due.about("A method that throws an exception changes nothing");
        due.same("output", Due.output(x), "10 14 17");
    }

    private static void comb(MusicBoxEditor x, String want) {
        due.same("writeComb", x.writeComb(), want.length());
        due.same("output", Due.output(x), want);
    }

    private static void writeCombOfOneAndTwelve() {
        due.about("A space (byte 32) separates two teeth");
        comb(Due.box("box 4 2 0;tooth 0 1 30;"), "0");
        comb(Due.box("box 4 2 0;tooth 60 1 30;"), "60");
        MusicBoxEditor x = Due.box("box 4 2 0;tooth 5 1 30;tooth 6 1 30;");
        comb(x, "5 6");
        due.same("byte 32", x.outputByte(1), 32);
        comb(Due.box("box 4 2 0;" + Due.times(12, "tooth 60 1 30;")), Due.times(11, "60 ") + "60");
        comb(Due.box("box 4 2 0;" + Due.times(12, "tooth 9 1 30;")), Due.times(11, "9 ") + "9");
    }

    private static void writeCombOfEachPitch() {
        due.about("For each tooth, the sounding pitch is written");
        for (int pitch = 0; pitch <= 60; pitch++) {
            comb(Due.box("box 4 2 0;tooth " + pitch + " 1 30;"), String.valueOf(pitch));
        }
        MusicBoxEditor x = Due.box("box 4 2 0;tooth 0 1 30;tooth 1 1 30;tooth 2 1 30;tooth 10 1 30;tooth 9 1 30;tooth 60 1 30;tooth 3 1 30;");
        x.bend(0, -3);
        x.bend(1, -2);
        x.bend(2, -3);
        x.bend(3, -1);
        x.bend(4, 1);
        x.bend(5, 3);
        x.bend(6, -3);
        comb(x, "-3 -1 -1 9 10 63 0");
        MusicBoxEditor y = Due.box("box 4 2 0;" + Due.times(12, "tooth 0 1 30;"));
        for (int tooth = 0; tooth < 12; tooth++) {
            y.bend(tooth, -2);
        }
        comb(y, Due.times(11, "-2 ") + "-2");
    }

    private static void writeCombOfBrokenTeeth() {
        due.about("or an x (byte 120) if it is broken");
        MusicBoxEditor x = Due.box("box 4 2 0;tooth 1 1 10;tooth 22 1 10;tooth 3 1 10;");
        String[] want = {"1 22 3", "1 23 3", "1 22 3", "1 23 3", "1 x 3"};
        comb(x, want[0]);
        for (int i = 1; i <= 4; i++) {
            x.bend(1, i % 2 == 0 ? -1 : 1);
            comb(x, want[i]);
        }
        due.same("byte 120", x.outputByte(2), 120);
        x.replaceTooth(1);
        comb(x, "1 22 3");
        MusicBoxEditor y = Due.box("box 4 20 0;" + Due.times(12, "tooth 60 1 10;"));
        for (int tooth = 0; tooth < 12; tooth++) {
            y.addPin(0, tooth, 0);
        }
        y.play(36);
        comb(y, Due.times(11, "60 ") + "60");
        y.play(1);
        comb(y, Due.times(11, "x ") + "x");
        y.replaceTooth(0);
        y.replaceTooth(11);
        comb(y, "60 " + Due.times(10, "x ") + "60");
    }

    private static void outputIsReplaced() {
        due.about("to the output, which is replaced");
        MusicBoxEditor x = Due.box("box 64 2 0;tooth 5 1 30;pin 0 0 0;pin 0 0 63;");
        x.writePins(0, 0);
        due.same("the longest", x.outputByte(63), 35);
        due.same("the shortest", x.writeComb(), 1);
        due.same("outputByte(0)", x.outputByte(0), 53);
        due.same("outputByte(1)", x.outputByte(1), -1);
        due.same("outputByte(63)", x.outputByte(63), -1);
        due.same("the longest again", x.writePins(0, 0), 64);
        due.same("outputByte(0)", x.outputByte(0), 35);
        due.same("outputByte(1)", x.outputByte(1), 45);
        due.same("once more", x.writePins(1, 0), 64);
        due.same("outputByte(63)", x.outputByte(63), 45);
        due.same("outputByte(64)", x.outputByte(64), -1);
    }

    private static void outputByteAtTheEnds() {
        due.about("index: the index of the byte, from 0");
        MusicBoxEditor x = new MusicBoxEditor();
        x.writeComb();
        due.same("the first", x.outputByte(0), 49);
        due.same("the last", x.outputByte(7), 55);
        due.same("behind the last", x.outputByte(8), -1);
        due.same("ahead of the first", x.outputByte(-1), -1);
        due.same("the least int", x.outputByte(Integer.MIN_VALUE), -1);
        due.same("the greatest int", x.outputByte(Integer.MAX_VALUE), -1);
        due.same("a byte stays when it was read", x.outputByte(0), 49);
    }

    private static void outputIsNoChange() {
        due.about("The methods that are marked as changes are recorded");
        MusicBoxEditor x = new MusicBoxEditor();
        String before = Due.state(x);
        x.writeComb();
        x.writePins(0, 0);
        x.outputByte(0);
        due.same("undoCount", x.undoCount(), 0);
        due.badState("undo", x::undo);
        due.same("state", Due.state(x), before);
    }

    private static void outputIsAsItWasWritten() {
        due.about("Returns a byte of the output");
        MusicBoxEditor x = new MusicBoxEditor();
        x.writePins(0, 1);
        x.removePin(0, 1, 3);
        x.setGap(1, 9);
        x.shift(0, 1);
        x.play(3);
        x.save(0);
        x.undo();
        x.restore(0);
        Due.script(x, "pin 0 1 7;");
        due.same("output behind changes", Due.output(x), "--#!----");
        Due.write(x, "box 4 1 0;tooth 5 3 30;");
        x.load();
        due.same("output behind a load", Due.output(x), "--#!----");
    }
}
