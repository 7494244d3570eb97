/** Promises 53 to 55: the output. */
public final class OutputTest {
    private static final Due due = new Due();

    public static void main(String[] args) {
        writePins();
        writeComb();
        outputByte();
        due.end();
    }

    private static void writePins() {
        MusicBoxEditor x = new MusicBoxEditor();
        due.same("writePins(0, 1)", x.writePins(0, 1), 8);
        due.same("output", Due.output(x), "--#!----");
        due.same("writePins(1, 0)", x.writePins(1, 0), 8);
        due.same("output", Due.output(x), "-#---#--");
        x.setGap(0, 5);
        x.writePins(1, 0);
        due.same("close pins", Due.output(x), "-!---!--");
        due.same("writePins(2, 2)", x.writePins(2, 2), 8);
        due.same("no pins", Due.output(x), "--------");
        due.noSuch("writePins(3, 0)", () -> x.writePins(3, 0));
        due.noSuch("writePins(-1, 0)", () -> x.writePins(-1, 0));
        due.noSuch("writePins(0, 3)", () -> x.writePins(0, 3));
        due.noSuch("writePins(0, -1)", () -> x.writePins(0, -1));
        due.noSuch("writePins(3, 3)", () -> x.writePins(3, 3));
        due.same("what throws keeps the output", Due.output(x), "--------");
        due.same("only setGap is a change", x.undoCount(), 1);
        MusicBoxEditor y = Due.box("box 64 1 0;tooth 0 1 10;pin 0 0 0;pin 0 0 63;");
        due.same("the longest", y.writePins(0, 0), 64);
        due.same("last byte", y.outputByte(63), '#');
        due.same("behind it", y.outputByte(64), -1);
        due.same("a shorter one replaces it", y.writeComb(), 1);
        due.same("output", Due.output(y), "0");
        MusicBoxEditor z = Due.box("box 4 1 0;tooth 0 9 10;pin 0 0 2;");
        z.writePins(0, 0);
        due.same("a single close pin", Due.output(z), "--!-");
    }

    private static void writeComb() {
        MusicBoxEditor x = Due.box("box 4 1 0;tooth 0 1 10;tooth 9 1 10;tooth 10 1 10;tooth 60 1 10;");
        due.same("writeComb", x.writeComb(), 9);
        due.same("output", Due.output(x), "0 9 10 60");
        x.bend(0, -3);
        x.bend(1, 3);
        x.bend(2, -1);
        x.bend(3, 3);
        due.same("writeComb", x.writeComb(), 10);
        due.same("sounding pitches", Due.output(x), "-3 12 9 63");
        for (int i = 0; i < 3; i++) {
            x.bend(0, i % 2 == 0 ? 1 : -1);
            x.bend(3, i % 2 == 0 ? -1 : 1);
        }
        due.same("writeComb", x.writeComb(), 8);
        due.same("broken teeth", Due.output(x), "x 12 9 x");
        StringBuilder twelve = new StringBuilder("box 4 1 0;");
        for (int i = 0; i < 12; i++) {
            twelve.append("tooth 60 3 30;");
        }
        due.same("twelve teeth", Due.box(twelve.toString()).writeComb(), 35);
    }

    private static void outputByte() {
        MusicBoxEditor x = new MusicBoxEditor();
        due.same("empty output", x.outputByte(0), -1);
        x.writeComb();
        due.same("outputByte(0)", x.outputByte(0), '1');
        due.same("outputByte(1)", x.outputByte(1), '0');
        due.same("outputByte(2)", x.outputByte(2), ' ');
        due.same("outputByte(7)", x.outputByte(7), '7');
        due.same("outputByte(8)", x.outputByte(8), -1);
        due.same("outputByte(-1)", x.outputByte(-1), -1);
        due.same("outputByte(64)", x.outputByte(64), -1);
        due.same("outputByte(max)", x.outputByte(Integer.MAX_VALUE), -1);
        due.same("outputByte(min)", x.outputByte(Integer.MIN_VALUE), -1);
        due.same("no change", x.undoCount(), 0);
    }
}
