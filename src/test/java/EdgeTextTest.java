/** The edges of promises 1, 2, 3, 6 and 7 and of the tokens of a text, sentence by sentence. */
public final class EdgeTextTest {
    private static final Due due = new Due();
    private static final String SMALL = "box 4 1 0;tooth 5 3 30;";

    public static void main(String[] args) {
        newObject();
        twoObjects();
        appendOrder();
        appendZeros();
        appendReturns();
        appendFull();
        appendRefused();
        truncateRange();
        truncateReturns();
        truncateLeavesTheFront();
        errorOfNoCall();
        errorOfTheLatest();
        everyCode();
        fullSetup();
        fullScript();
        wordIsMaximal();
        numberIsMaximal();
        leadingZeros();
        signsAreTokens();
        separators();
        otherBytes();
        due.end();
    }

    private static void script(String text, int executed, int code, int position) {
        script(new MusicBoxEditor(), text, executed, code, position);
    }

    private static void script(MusicBoxEditor x, String text, int executed, int code, int position) {
        due.same("script " + text, Due.script(x, text), executed);
        due.same("errorCode of " + text, x.errorCode(), code);
        due.same("errorPosition in " + text, x.errorPosition(), position);
    }

    private static void newObject() {
        due.about("with an empty text buffer and an empty output");
        MusicBoxEditor x = new MusicBoxEditor();
        due.same("append of nothing", x.append(0, 0, 0, 0, 0), 0);
        due.same("outputByte(0)", x.outputByte(0), -1);
        due.same("load", x.load(), 1);
        due.same("errorPosition", x.errorPosition(), 0);
        MusicBoxEditor y = new MusicBoxEditor();
        due.same("runScript", y.runScript(), 0);
        due.about("Creates the box of the setup");
        MusicBoxEditor z = new MusicBoxEditor();
        due.same("undoCount", z.undoCount(), 0);
        due.badState("undo", z::undo);
        due.noElement("restore(0)", () -> z.restore(0));
        due.noElement("restore(1)", () -> z.restore(1));
        due.same("chord(0, 0)", z.chord(0, 0), 1);
        due.same("chord(0, 2)", z.chord(0, 2), 2);
        due.same("chord(0, 3)", z.chord(0, 3), 2);
        due.same("chord(0, 4)", z.chord(0, 4), 4);
        due.same("chord(1, 1)", z.chord(1, 1), 1);
        due.same("chord(1, 5)", z.chord(1, 5), 1);
        due.same("pinCount(0)", z.pinCount(0), 4);
        due.same("pinCount(1)", z.pinCount(1), 2);
        due.same("pinCount(2)", z.pinCount(2), 0);
    }

    private static void twoObjects() {
        due.about("Creates the box of the setup");
        MusicBoxEditor x = new MusicBoxEditor();
        MusicBoxEditor other = new MusicBoxEditor();
        String before = Due.state(x);
        Due.write(other, "box 4 0 0;");
        other.play(9);
        other.save(0);
        other.writeComb();
        other.bend(0, 3);
        other.notesIn(5);
        due.same("an object beside another", Due.state(x), before);
        due.same("its output", x.outputByte(0), -1);
        due.same("its text", x.truncate(0), 0);
        due.same("its undoCount", x.undoCount(), 0);
        due.noElement("its slot", () -> x.restore(0));
        due.same("an object behind another", Due.state(new MusicBoxEditor()), before);
    }

    private static void appendOrder() {
        due.about("Appends the four bytes of each parameter, the most significant byte first");
        MusicBoxEditor x = new MusicBoxEditor();
        // "vane", " 12;", "wind", " 3;v", "ane "
        due.same("append", x.append(0x76616e65, 0x2031323b, 0x77696e64, 0x20333b76, 0x616e6520), 20);
        // "3", "4", ";" at the end of a parameter, and two spaces
        due.same("append", x.append(0x00000033, 0x00000034, 0x0000003b, 0x00000020, 0x00000020), 25);
        due.same("runScript", x.runScript(), 3);
        due.same("vane", x.vane(), 34);
        due.same("turnsLeft", x.turnsLeft(), 8);
        due.same("undo", x.undo(), 0);
        due.same("vane", x.vane(), 40);
    }

    private static void appendZeros() {
        due.about("Bytes that are 0 are left out");
        MusicBoxEditor x = new MusicBoxEditor();
        due.same("append of zeros alone", x.append(0, 0, 0, 0, 0), 0);
        // v a, n, e 5, ;
        due.same("append with zeros between", x.append(0x76006100, 0x00006e00, 0, 0x65000035, 0x003b0000), 6);
        due.same("runScript", x.runScript(), 1);
        due.same("vane", x.vane(), 5);
    }

    private static void appendReturns() {
        due.about("Returns the number of bytes in the buffer");
        MusicBoxEditor x = new MusicBoxEditor();
        due.same("one byte in a", x.append(0x01000000, 0, 0, 0, 0), 1);
        due.same("one byte in b", x.append(0, 0x00010000, 0, 0, 0), 2);
        due.same("one byte in c", x.append(0, 0, 0x00000100, 0, 0), 3);
        due.same("one byte in d", x.append(0, 0, 0, 0x00000001, 0), 4);
        due.same("one byte in e", x.append(0, 0, 0, 0, 0x80000000), 5);
        due.same("bytes over 127", x.append(0x80ff0080, 0, 0, 0, 0xff000000), 9);
        due.same("all", x.append(-1, -1, -1, -1, -1), 29);
    }

    private static void appendFull() {
        due.about("A text buffer holds at most 800 bytes");
        MusicBoxEditor x = new MusicBoxEditor();
        for (int i = 1; i <= 39; i++) {
            x.append(0x20202020, 0x20202020, 0x20202020, 0x20202020, 0x20202020);
        }
        due.same("the last 20 of 800", x.append(0x20202020, 0x20202020, 0x20202020, 0x20202020, 0x20202020), 800);
        due.same("zeros behind 800", x.append(0, 0, 0, 0, 0), 800);
        due.badState("the 801st", () -> x.append(0, 0, 0, 0, 1));
        due.same("runScript", x.runScript(), 0);
        due.same("an empty buffer again", x.append(0x20000000, 0, 0, 0, 0), 1);
        due.same("truncate", x.truncate(0), 1);
        for (int i = 1; i <= 40; i++) {
            due.same("filled once more", x.append(-1, -1, -1, -1, -1), 20L * i);
        }
        due.same("load", x.load(), 1);
        due.same("an empty buffer again", x.append(0x20000000, 0, 0, 0, 0), 1);
    }

    private static void appendRefused() {
        due.about("if the buffer would hold more than 800 bytes");
        MusicBoxEditor x = new MusicBoxEditor();
        Due.write(x, "vane 7;" + Due.times(784, " "));
        due.badState("20 over 791", () -> x.append(0x76616e65, 0x20393b20, 0x20202020, 0x20202020, 0x20202020));
        due.badState("10 over 791", () -> x.append(0x20202020, 0x20202020, 0x20200000, 0, 0));
        due.same("append of nothing", x.append(0, 0, 0, 0, 0), 791);
        due.same("9 over 791", x.append(0x20202020, 0x20202020, 0x20000000, 0, 0), 800);
        due.same("only the first command", x.runScript(), 1);
        due.same("vane", x.vane(), 7);
        for (int parameter = 0; parameter < 5; parameter++) {
            for (int bytes = 1; bytes <= 4; bytes++) {
                bytesIn(parameter, bytes);
            }
        }
    }

    /** So many bytes in one parameter are taken if the buffer has room for just as many, and not if it has one less. */
    private static void bytesIn(int parameter, int bytes) {
        MusicBoxEditor x = new MusicBoxEditor();
        Due.write(x, Due.times(801 - bytes, " "));
        int[] words = new int[5];
        for (int i = 0; i < bytes; i++) {
            words[parameter] |= 0x20 << 8 * i;
        }
        String what = bytes + " bytes in parameter " + parameter;
        due.badState(what + ", one over", () -> x.append(words[0], words[1], words[2], words[3], words[4]));
        due.same("the length behind " + what, x.append(0, 0, 0, 0, 0), 801 - bytes);
        x.truncate(800 - bytes);
        due.same(what, x.append(words[0], words[1], words[2], words[3], words[4]), 800);
    }

    private static void truncateRange() {
        due.about("the new length, from 0 to the present length");
        MusicBoxEditor x = new MusicBoxEditor();
        due.badArgument("truncate(1) of an empty text", () -> x.truncate(1));
        due.badArgument("truncate(-1) of an empty text", () -> x.truncate(-1));
        due.same("truncate(0) of an empty text", x.truncate(0), 0);
        Due.write(x, "vane 5;");
        due.badArgument("truncate(8) of 7", () -> x.truncate(8));
        due.badArgument("truncate(-1) of 7", () -> x.truncate(-1));
        due.badArgument("truncate(least int)", () -> x.truncate(Integer.MIN_VALUE));
        due.badArgument("truncate(greatest int)", () -> x.truncate(Integer.MAX_VALUE));
        due.same("truncate(7) of 7", x.truncate(7), 0);
        due.same("runScript", x.runScript(), 1);
        due.badArgument("truncate(1) behind a script", () -> x.truncate(1));
        Due.write(x, Due.times(800, " "));
        due.badArgument("truncate(801) of 800", () -> x.truncate(801));
        due.same("truncate(800) of 800", x.truncate(800), 0);
        due.same("truncate(0) of 800", x.truncate(0), 800);
    }

    private static void truncateReturns() {
        due.about("Returns the number of bytes that were removed");
        MusicBoxEditor x = new MusicBoxEditor();
        Due.write(x, "abcdef");
        due.same("truncate(5) of 6", x.truncate(5), 1);
        due.same("truncate(5) of 5", x.truncate(5), 0);
        due.same("truncate(1) of 5", x.truncate(1), 4);
        due.same("truncate(0) of 1", x.truncate(0), 1);
        due.same("truncate(0) of 0", x.truncate(0), 0);
    }

    private static void truncateLeavesTheFront() {
        due.about("Shortens the text buffer");
        MusicBoxEditor x = new MusicBoxEditor();
        Due.write(x, "vane 5;vane 6;");
        x.truncate(7);
        due.same("runScript", x.runScript(), 1);
        due.same("vane", x.vane(), 5);
        Due.write(x, "vane 71;");
        x.truncate(6);
        Due.write(x, ";");
        due.same("the next bytes go behind what is left", x.runScript(), 1);
        due.same("vane", x.vane(), 7);
    }

    private static void errorOfNoCall() {
        due.about("0 if there was no error or no such call; NONE if there was no error or no such call");
        MusicBoxEditor x = new MusicBoxEditor();
        due.same("errorCode of a new object", x.errorCode(), 0);
        due.same("errorPosition of a new object", x.errorPosition(), -1);
        Due.write(x, "???");
        due.same("errorCode ahead of a load", x.errorCode(), 0);
        due.same("errorPosition ahead of a load", x.errorPosition(), -1);
        x.truncate(0);
        Due.write(x, SMALL);
        due.same("load", x.load(), 0);
        due.same("errorCode of a good load", x.errorCode(), 0);
        due.same("errorPosition of a good load", x.errorPosition(), -1);
        script(x, "vane 1;", 1, 0, -1);
        script(x, "pin 0 11 63;", 0, 0, -1);
    }

    private static void errorOfTheLatest() {
        due.about("Returns the error code / the error position of the latest call of load or runScript");
        MusicBoxEditor x = new MusicBoxEditor();
        Due.write(x, "box 3");
        due.same("load", x.load(), 2);
        due.same("errorCode", x.errorCode(), 2);
        due.same("errorPosition", x.errorPosition(), 4);
        script(x, "  vane;", -1, 1, 6);
        Due.write(x, SMALL + "pin 0 0 0;pin 0 0 0;");
        due.same("load", x.load(), 3);
        due.same("errorCode", x.errorCode(), 3);
        due.same("errorPosition", x.errorPosition(), 41);
        script(x, "", 0, 0, -1);
        script(x, "vane 91;", -1, 2, 5);
        Due.write(x, SMALL);
        due.same("load", x.load(), 0);
        due.same("errorCode behind a good load", x.errorCode(), 0);
        due.same("errorPosition behind a good load", x.errorPosition(), -1);
        script(x, "x", -1, 1, 0);
        Due.write(x, "vane 3;");
        x.play(2);
        x.save(1);
        x.writeComb();
        x.undo();
        x.restore(1);
        x.truncate(1);
        due.badArgument("a refused call", () -> x.setVane(91));
        due.same("errorCode behind other calls", x.errorCode(), 1);
        due.same("errorPosition behind other calls", x.errorPosition(), 0);
    }

    private static void everyCode() {
        due.about("SYNTAX = 1, OUT_OF_RANGE = 2, PIN_TWICE = 3, TOO_MANY = 4");
        MusicBoxEditor x = new MusicBoxEditor();
        Due.write(x, SMALL + "pin 0 0");
        due.same("load", x.load(), MusicBoxEditor.SYNTAX);
        Due.write(x, SMALL + "pin 3 0 0;");
        due.same("load", x.load(), MusicBoxEditor.OUT_OF_RANGE);
        Due.write(x, SMALL + "pin 2 0 0;pin 2 0 0;");
        due.same("load", x.load(), MusicBoxEditor.PIN_TWICE);
        Due.write(x, "box 4 1 0;" + Due.times(13, "tooth 5 3 30;"));
        due.same("load", x.load(), MusicBoxEditor.TOO_MANY);
        due.same("load's answer is the errorCode", x.errorCode(), 4);
        due.same("NONE", MusicBoxEditor.NONE, -1);
        due.same("SYNTAX", MusicBoxEditor.SYNTAX, 1);
        due.same("OUT_OF_RANGE", MusicBoxEditor.OUT_OF_RANGE, 2);
        due.same("PIN_TWICE", MusicBoxEditor.PIN_TWICE, 3);
        due.same("TOO_MANY", MusicBoxEditor.TOO_MANY, 4);
        due.same("REST", MusicBoxEditor.REST, 0);
        due.same("BROKEN", MusicBoxEditor.BROKEN, 1);
        due.same("NOTE", MusicBoxEditor.NOTE, 2);
        due.same("SQUEAK", MusicBoxEditor.SQUEAK, 3);
    }

    private static void fullSetup() {
        due.about("A text buffer holds at most 800 bytes");
        String spaces = Due.times(800 - SMALL.length(), " ");
        due.same("a setup of 800 bytes", Due.box(SMALL + spaces).toothCount(), 1);
        due.same("a setup behind spaces", Due.box(spaces + SMALL).toothCount(), 1);
        // 77 pins of ten bytes each; the semicolon of the last is the last byte of all.
        StringBuilder pins = new StringBuilder("box 64 0 0;tooth 0 1 10;" + Due.times(6, " "));
        for (int i = 0; i < 77; i++) {
            pins.append("pin").append(i / 30).append(" 0 ").append(i % 30 < 10 ? "0" : "").append(i % 30).append(';');
        }
        due.same("the length of the text", pins.length(), 800);
        MusicBoxEditor x = Due.box(pins.toString());
        due.same("pinCount(0)", x.pinCount(0), 30);
        due.same("pinCount(1)", x.pinCount(1), 30);
        due.same("pinCount(2)", x.pinCount(2), 17);
        due.same("the last pin", x.isPin(2, 0, 16), true);
        MusicBoxEditor y = new MusicBoxEditor();
        Due.write(y, pins.substring(0, 799) + "\u00e9");
        due.same("an error in the last byte", y.load(), 1);
        due.same("errorPosition", y.errorPosition(), 799);
        Due.write(y, pins.substring(0, 799) + " ");
        due.same("a text of 800 bytes that ends too early", y.load(), 1);
        due.same("errorPosition", y.errorPosition(), 800);
    }

    private static void fullScript() {
        due.about("A text buffer holds at most 800 bytes");
        script("vane 1;" + Due.times(786, "\n") + "vane 2;", 2, 0, -1);
        script("vane 1;" + Due.times(787, "\n") + "vane 2", -1, 1, 800);
        script("vane 1;" + Due.times(792, "\n") + "x", -1, 1, 799);
        script("vane " + Due.times(794, "0") + ";", 1, 0, -1);
        script("vane " + Due.times(793, "0") + "9;", 1, 0, -1);
        script("vane " + Due.times(794, "9") + ";", -1, 2, 5);
        script(Due.times(800, "a"), -1, 1, 0);
        script(Due.times(800, ";"), -1, 1, 0);
        script(Due.times(800, "("), -1, 1, 0);
        script(Due.times(800, "\u00e9"), -1, 1, 0);
        script(Due.times(800, " "), 0, 0, -1);
    }

    private static void wordIsMaximal() {
        due.about("A word is a maximal run of the letters a to z");
        script("vanee 1;", -1, 1, 0);
        script("avane 1;", -1, 1, 0);
        script("van 1;", -1, 1, 0);
        script("van e 1;", -1, 1, 0);
        script("vanevane 1;", -1, 1, 0);
        script("vanez 1;", -1, 1, 0);
        script("vane`1;", -1, 1, 4);
        script("vane{1;", -1, 1, 4);
        script("vAne 1;", -1, 1, 0);
        script("Vane 1;", -1, 1, 0);
        script("VANE 1;", -1, 1, 0);
        script("vanE 1;", -1, 1, 0);
        script("vane1;", 1, 0, -1);
        script("bend0up1;bend0down1;", 2, 0, -1);
        script("bend0upp1;", -1, 1, 5);
        script("repeat2(vane1;);", 2, 0, -1);
    }

    private static void numberIsMaximal() {
        due.about("A number is a maximal run of decimal digits");
        script("vane 90;", 1, 0, -1);
        script("vane 9 0;", -1, 1, 7);
        script("vane 901;", -1, 2, 5);
        script("vane 9a;", -1, 1, 6);
        script("vane 9/;", -1, 1, 6);
        script("vane 9:;", -1, 1, 6);
        script("vane 0x1;", -1, 1, 6);
        script("vane +1;", -1, 1, 5);
        script("vane -0;", -1, 1, 5);
        script("vane 1.0;", -1, 1, 6);
        script("pin20 0 0;", -1, 2, 3);
        script("pin2 0 0;", 1, 0, -1);
        script("vane 2147483648;", -1, 2, 5);
        script("vane 2147483647;", -1, 2, 5);
        script("vane 4294967296;", -1, 2, 5);
        script("vane 4294967297;", -1, 2, 5);
        script("vane 18446744073709551616;", -1, 2, 5);
        script("vane 1000000;", -1, 2, 5);
        script("vane 10000000000000000000000000000000000000001;", -1, 2, 5);
    }

    private static void leadingZeros() {
        due.about("leading zeros are allowed");
        MusicBoxEditor x = new MusicBoxEditor();
        script(x, "vane 0000000000000000000000000000007;", 1, 0, -1);
        due.same("vane", x.vane(), 7);
        script(x, "vane 090;", 1, 0, -1);
        due.same("vane", x.vane(), 90);
        script(x, "vane 000;", 1, 0, -1);
        due.same("vane", x.vane(), 0);
        script(x, "vane 010;", 1, 0, -1);
        due.same("vane", x.vane(), 10);
        script(x, "vane 00091;", -1, 2, 5);
        script(x, "wind 00;", -1, 2, 5);
        MusicBoxEditor y = Due.box("box 04 00020 000;tooth 007 01 0010;pin 00 00 003;");
        due.same("stepCount", y.stepCount(), 4);
        due.same("turnsLeft", y.turnsLeft(), 20);
        due.same("soundingPitch", y.soundingPitch(0), 7);
        due.same("isPin", y.isPin(0, 0, 3), true);
    }

    private static void signsAreTokens() {
        due.about("Each of the characters ; ( and ) is a token of its own");
        script("repeat 2(repeat 2(vane 1;););", 4, 0, -1);
        script("repeat 2 ( repeat 2 ( vane 1 ; ) ; ) ;", 4, 0, -1);
        script("repeat 1();repeat 1();", 0, 0, -1);
        script("vane 1;;", -1, 1, 7);
        script("vane 1;;;;", -1, 1, 7);
        script("repeat 2((vane 1;););", -1, 1, 9);
        script("repeat 2(vane 1;));", -1, 1, 17);
    }

    private static void separators() {
        due.about("Spaces (byte 32) and line feeds (byte 10) may separate tokens");
        script("\nvane\n1\n;\n", 1, 0, -1);
        script(" vane 1 ; ", 1, 0, -1);
        script("  \n\n vane \n \n 1 \n ; \n", 1, 0, -1);
        script("vane 1;vane 2;", 2, 0, -1);
        script(" ", 0, 0, -1);
        script("\n", 0, 0, -1);
        script("vane 1 0;", -1, 1, 7);
        script("vane 1\n0;", -1, 1, 7);
        script("va\nne 1;", -1, 1, 0);
    }

    private static void otherBytes() {
        due.about("Every other byte is an invalid token");
        for (int b = 1; b <= 255; b++) {
            String sign = String.valueOf((char) b);
            boolean separates = b == 32 || b == 10;
            boolean letter = b >= 'a' && b <= 'z';
            boolean digit = b >= '0' && b <= '9';
            script("vane 1;" + sign, separates ? 1 : -1, separates ? 0 : 1, separates ? -1 : 7);
            if (separates) {
                script("vane" + sign + " 1;", 1, 0, -1);
                script("vane 1" + sign + ";", 1, 0, -1);
            } else if (letter) {
                script("vane" + sign + " 1;", -1, 1, 0);
                script("vane 1" + sign + ";", -1, 1, 6);
            } else if (digit) {
                script("vane" + sign + " 1;", -1, 1, 6);
                script("vane 1" + sign + ";", 1, 0, -1);
            } else {
                script("vane" + sign + " 1;", -1, 1, 4);
                script("vane 1" + sign + ";", -1, 1, b == ';' ? 7 : 6);
                script("vane 1;" + sign + sign + "vane", -1, 1, 7);
            }
            setupWith(sign, separates);
        }
    }

    private static void setupWith(String sign, boolean separates) {
        MusicBoxEditor x = new MusicBoxEditor();
        Due.write(x, SMALL + sign + "pin 0 0 0;");
        due.same("load with byte " + (int) sign.charAt(0), x.load(), separates ? 0 : 1);
        due.same("errorPosition", x.errorPosition(), separates ? -1 : 23);
    }
}
