/** The edges of promise 4 and of the grammar of a setup, sentence by sentence. */
public final class EdgeSetupTest {
    private static final Due due = new Due();
    private static final String HEAD = "box 8 5 40;";
    private static final String TOOTH = "tooth 5 3 30;";
    private static final String ONE = HEAD + TOOTH;
    private static final String NEW_BOX = Due.state(new MusicBoxEditor());

    public static void main(String[] args) {
        wholeGrammar();
        oneToothIsNeeded();
        twelveTeeth();
        thirteenthTooth();
        pinsAreFree();
        pinsOfTheBox();
        pinTwice();
        firstErrorIsTold();
        smallestCodeIsTold();
        emptiesTheBuffer();
        newBox();
        newBoxForgetsAll();
        boxStaysAsItIs();
        nothingLeftOfAnError();
        answers();
        leastAndGreatest();
        due.end();
    }

    private static void read(String setup, int code, int position) {
        MusicBoxEditor x = new MusicBoxEditor();
        Due.write(x, setup);
        due.same("load of " + setup, x.load(), code);
        due.same("errorCode of " + setup, x.errorCode(), code);
        due.same("errorPosition in " + setup, x.errorPosition(), position);
        due.same("the text behind " + setup, x.append(0, 0, 0, 0, 0), 0);
        if (code != 0) {
            due.same("the box behind " + setup, Due.state(x), NEW_BOX);
        }
    }

    /** No change of a number makes one of these pins the other one, or takes it from the roll or the comb. */
    private static SpoiltText spoilt() {
        return new SpoiltText()
                .token("box").number(8, 4, 64).number(5, 0, 20).number(40, 0, 90).token(";")
                .token("tooth").number(10, 0, 60).number(3, 1, 9).number(30, 10, 999).token(";")
                .token("tooth", "pin", "").number(14, 0, 60).number(2, 1, 9).number(12, 10, 999).token(";")
                .token("tooth", "pin", "").number(17, 0, 60).number(4, 1, 9).number(100, 10, 999).token(";")
                .token("pin", "tooth", "").number(1, 0, 2).number(1, 0, 2).number(1, 0, 7).token(";")
                .token("pin", "").number(0, 0, 2).number(2, 0, 2).number(3, 0, 7).token(";")
                .end("pin");
    }

    private static void wholeGrammar() {
        due.about("Parses the text buffer as a setup");
        spoilt().wholeText(EdgeSetupTest::read);
        due.about("the length of the text if the text ends too early");
        spoilt().endsTooEarly(EdgeSetupTest::read);
        due.about("a token is invalid or not allowed at its place");
        spoilt().wrongTokens(EdgeSetupTest::read);
        due.about("a number is out of its range");
        spoilt().endsOfRanges(EdgeSetupTest::read);
    }

    private static void oneToothIsNeeded() {
        due.about("tooth { tooth }; there are 1 to 12 teeth");
        read(HEAD, 1, 11);
        read(HEAD + " \n", 1, 13);
        read(HEAD + "pin 0 0 0;", 1, 11);
        read(HEAD + ";", 1, 11);
        read(HEAD + TOOTH, 0, -1);
        due.same("toothCount", Due.box(ONE).toothCount(), 1);
    }

    private static void twelveTeeth() {
        due.about("There are 1 to 12 teeth, numbered from 0");
        MusicBoxEditor x = Due.box(HEAD + Due.times(11, TOOTH) + "tooth 55 1 10;pin 0 11 7;");
        due.same("toothCount", x.toothCount(), 12);
        due.same("soundingPitch(11)", x.soundingPitch(11), 55);
        due.same("chord(0, 7)", x.chord(0, 7), 2048);
        due.noSuch("soundingPitch(12)", () -> x.soundingPitch(12));
        due.same("eleven", Due.box(HEAD + Due.times(11, TOOTH)).toothCount(), 11);
    }

    private static void thirteenthTooth() {
        due.about("in a setup the word of a 13th tooth");
        String twelve = HEAD + Due.times(12, TOOTH);
        int length = twelve.length();
        read(twelve, 0, -1);
        read(twelve + TOOTH, 4, length);
        read(twelve + "\n  " + TOOTH, 4, length + 3);
        read(twelve + "tooth", 4, length);
        read(twelve + "tooth tooth", 4, length);
        read(twelve + "tooth 99", 4, length);
        read(twelve + "teeth", 1, length);
    }

    private static void pinsAreFree() {
        due.about("{ \"pin\" tune tooth step \";\" }");
        due.same("no pin", Due.box(ONE).pinCount(0), 0);
        due.same("one pin", Due.box(ONE + "pin 0 0 0;").pinCount(0), 1);
        due.same("two pins", Due.box(ONE + "pin 0 0 0;pin 0 0 1;").pinCount(0), 2);
        read(ONE + "pin 0 0 0;" + TOOTH, 1, 34);
        read(ONE + "pin 0 0 0;" + HEAD, 1, 34);
        read(ONE + "pin 0 0 0;unpin 0 0 0;", 1, 34);
    }

    private static void pinsOfTheBox() {
        due.about("In a setup, a tooth and a step of \"pin\" are those of the box");
        read(ONE + "pin 0 0 7;", 0, -1);
        read(ONE + "pin 0 0 8;", 2, 32);
        read(ONE + "pin 0 1 0;", 2, 30);
        read(ONE + TOOTH + "pin 0 1 0;", 0, -1);
        read(ONE + TOOTH + "pin 0 2 0;", 2, 43);
        read("box 4 5 40;" + TOOTH + "pin 0 0 3;", 0, -1);
        read("box 4 5 40;" + TOOTH + "pin 0 0 4;", 2, 32);
        read("box 64 5 40;" + TOOTH + "pin 0 0 63;", 0, -1);
        read("box 64 5 40;" + TOOTH + "pin 0 0 64;", 2, 33);
        String twelve = HEAD + Due.times(12, TOOTH);
        read(twelve + "pin 0 11 0;", 0, -1);
        read(twelve + "pin 0 12 0;", 2, twelve.length() + 6);
        due.about("A tune is 0 to 2");
        read(ONE + "pin 2 0 0;", 0, -1);
        read(ONE + "pin 3 0 0;", 2, 28);
    }

    private static void pinTwice() {
        due.about("in a setup the step of a pin that is there already");
        read(ONE + "pin 0 0 7;pin 0 0 7;", 3, 42);
        read(ONE + "pin 0 0 7;pin 0 0 6;pin 0 0 7;", 3, 52);
        read(ONE + "pin 0 0 7;pin 0 0 07", 3, 42);
        read(ONE + "pin 0 0 7;pin 0 0 7 7", 3, 42);
        read(ONE + "pin 2 0 0;pin 2 0 0;", 3, 42);
        read(ONE + "pin 0 0 7;pin 1 0 7;pin 2 0 7;", 0, -1);
        read(ONE + TOOTH + "pin 0 0 7;pin 0 1 7;", 0, -1);
        read(ONE + "pin 0 0 6;pin 0 0 7;", 0, -1);
        String wide = "box 64 5 40;" + TOOTH;
        read(wide + "pin 0 0 0;pin 0 0 32;", 0, -1);
        read(wide + "pin 0 0 31;pin 0 0 63;", 0, -1);
        read(wide + "pin 0 0 63;pin 0 0 63;", 3, 44);
    }

    private static void firstErrorIsTold() {
        due.about("stops at the first token that has an error");
        read("box 8 21 91;;", 2, 6);
        read("box 8 x 91;", 1, 6);
        read("box 3 x", 2, 4);
        read(HEAD + "tooth 61 0 9;", 2, 17);
        read(ONE + "pin 3 1 8;", 2, 28);
        read(ONE + "pin 0 1 8;", 2, 30);
        read(ONE + "pin 0 0 7;pin 0 0 7;pin 3 0 0;zzz", 3, 42);
        read(HEAD + Due.times(13, TOOTH) + "zzz", 4, 11 + 12 * 13);
    }

    private static void smallestCodeIsTold() {
        due.about("If several kinds of errors apply to this token, the smallest code is reported");
        // A 13th word where no tooth is allowed, and numbers out of every range where no number is allowed.
        read(HEAD + Due.times(12, TOOTH) + "pin 0 0 0;tooth", 1, 11 + 12 * 13 + 10);
        read(HEAD + Due.times(12, TOOTH) + "pin tooth", 1, 11 + 12 * 13 + 4);
        read(ONE + "9999", 1, 24);
        read("9999", 1, 0);
        read("box 8 5 40 9999", 1, 11);
        // A step that is out of the roll is no pin that is there already.
        read(ONE + "pin 0 0 8;pin 0 0 8;", 2, 32);
        read("box 64 5 40;" + TOOTH + "pin 0 0 0;pin 0 0 64;", 2, 43);
        read(ONE + "pin 0 0 0;pin 0 0 64;", 2, 42);
        read(ONE + "pin 1 0 0;pin 0 12 0;", 2, 40);
    }

    private static void emptiesTheBuffer() {
        due.about("and empties the buffer");
        MusicBoxEditor x = new MusicBoxEditor();
        Due.write(x, ONE);
        due.same("load", x.load(), 0);
        due.same("truncate behind a load", x.truncate(0), 0);
        due.same("load of the empty buffer", x.load(), 1);
        due.same("errorPosition", x.errorPosition(), 0);
        Due.write(x, "box 3");
        due.same("load with an error", x.load(), 2);
        due.badArgument("truncate behind an error", () -> x.truncate(1));
        due.same("append behind an error", x.append(1, 0, 0, 0, 0), 1);
    }

    private static void newBox() {
        due.about("Without an error a new box is created: all statistics are 0");
        MusicBoxEditor x = new MusicBoxEditor();
        x.selectTune(1);
        x.play(13);
        x.bend(0, 1);
        x.replaceTooth(0);
        x.bend(1, 3);
        x.setGap(2, 9);
        x.notesIn(20);
        Due.write(x, HEAD + "tooth 20 1 10;tooth 14 2 12;pin 0 0 1;");
        due.same("load", x.load(), 0);
        due.same("noteCount", x.noteCount(), 0);
        due.same("squeakCount", x.squeakCount(), 0);
        due.same("stepsPlayed", x.stepsPlayed(), 0);
        due.same("brokenTeeth", x.brokenTeeth(), 0);
        due.same("contradictions", x.contradictions(), 0);
        due.same("all else", Due.state(x), Due.state(Due.box(HEAD + "tooth 20 1 10;tooth 14 2 12;pin 0 0 1;")));
        due.same("selectedTune", x.selectedTune(), 0);
        due.same("position", x.position(), 0);
        for (int tooth = 0; tooth < 2; tooth++) {
            due.same("wear", x.wear(tooth), 0);
            due.same("bendOf", x.bendOf(tooth), 0);
            due.same("silence", x.silence(tooth), 99);
        }
        due.same("toothCount", x.toothCount(), 2);
        due.same("turnsLeft", x.turnsLeft(), 5);
        due.same("pinCount(1)", x.pinCount(1), 0);
        x.wind(15);
        x.play(6);
        due.same("contradictions behind playing", x.contradictions(), 0);
    }

    private static void newBoxForgetsAll() {
        due.about("nothing can be undone, and both slots are empty");
        MusicBoxEditor x = new MusicBoxEditor();
        for (int i = 0; i < 9; i++) {
            x.setVane(i);
        }
        x.save(0);
        x.save(1);
        Due.write(x, ONE);
        due.same("load", x.load(), 0);
        due.same("undoCount", x.undoCount(), 0);
        due.badState("undo", x::undo);
        due.noElement("restore(0)", () -> x.restore(0));
        due.noElement("restore(1)", () -> x.restore(1));
        due.same("a first change", x.setVane(1), 40);
        due.same("undoCount", x.undoCount(), 1);
        due.same("undo", x.undo(), 0);
        due.same("vane", x.vane(), 40);
        due.badState("undo", x::undo);
        due.same("save(0)", x.save(0), 0);
        due.noElement("restore(1)", () -> x.restore(1));
        due.same("restore(0)", x.restore(0), 0);
        due.about("the output is no part of what a load is about");
        MusicBoxEditor y = new MusicBoxEditor();
        y.writeComb();
        Due.write(y, ONE);
        y.load();
        due.same("output", Due.output(y), "10 14 17");
    }

    private static MusicBoxEditor used() {
        MusicBoxEditor x = Due.box("box 4 5 40;tooth 10 3 30;tooth 14 2 12;pin 0 0 0;pin 0 1 1;pin 0 1 2;pin 1 0 1;");
        x.save(1);
        x.play(6);
        x.bend(1, 2);
        x.selectTune(1);
        x.writeComb();
        return x;
    }

    private static void boxStaysAsItIs() {
        due.about("With an error the box stays as it is");
        String[] wrong = {"", "zzz", TOOTH, TOOTH + "pin 0 0 3;", "8 5 40;" + TOOTH, "box 3", "box 64 20 90;", "box 64 20 90;tooth 1 1 10", "box 64 20 90;tooth 1 1 10;;",
            "box 4 1 0;tooth 1 1 10;pin 0 0 0;pin 0 0 1;pin 0 0 0;", "box 9 9 9;" + Due.times(13, TOOTH),
            "box 4 1 0;tooth 1 1 10;pin 0 0 0;zzz"};
        for (String text : wrong) {
            MusicBoxEditor x = used();
            Due.write(x, text);
            due.same("load of " + text, x.load() > 0, true);
            due.same("state behind " + text, Due.state(x), Due.state(used()));
            due.same("undoCount behind " + text, x.undoCount(), 3);
            due.same("undo behind " + text, x.undo(), 2);
            due.same("selectedTune behind undo", x.selectedTune(), 0);
            due.same("undo behind " + text, x.undo(), 1);
            due.same("bend behind undo", x.bendOf(1), 0);
            due.same("undo behind " + text, x.undo(), 0);
            due.same("played behind undo", x.stepsPlayed(), 0);
            due.noElement("the empty slot behind " + text, () -> x.restore(0));
            due.same("the slot behind " + text, x.restore(1), 0);
            due.same("output behind " + text, Due.output(x), "10 16");
        }
    }

    private static void nothingLeftOfAnError() {
        due.about("With an error the box stays as it is");
        MusicBoxEditor x = new MusicBoxEditor();
        Due.write(x, "box 64 20 90;" + Due.times(12, "tooth 60 9 999;") + "pin 0 0 0;pin 1 0 1;pin 2 0 2;zzz");
        due.same("load", x.load(), 1);
        due.same("a forecast", x.notesIn(8), 3);
        Due.write(x, ONE);
        due.same("load", x.load(), 0);
        due.same("state", Due.state(x), Due.state(Due.box(ONE)));
        due.same("toothCount", x.toothCount(), 1);
        due.same("pinCount(0)", x.pinCount(0), 0);
        due.same("pinCount(1)", x.pinCount(1), 0);
        due.same("pinCount(2)", x.pinCount(2), 0);
        Due.write(x, ONE + "pin 0 0 0;");
        due.same("a pin of the setup before is not twice", x.load(), 0);
    }

    private static void answers() {
        due.about("Returns 0, or the error code");
        read(ONE, 0, -1);
        read("", 1, 0);
        read("box 65", 2, 4);
        read(ONE + "pin 0 0 0;pin 0 0 0;", 3, 42);
        read(HEAD + Due.times(13, TOOTH), 4, 167);
    }

    private static void leastAndGreatest() {
        due.about("The roll has 4 to 64 steps; 0 to 20 turns; an angle from 0 to 90");
        MusicBoxEditor x = Due.box("box 4 0 0;tooth 0 1 10;");
        due.same("stepCount", x.stepCount(), 4);
        due.same("turnsLeft", x.turnsLeft(), 0);
        due.same("vane", x.vane(), 0);
        MusicBoxEditor y = Due.box("box 64 20 90;tooth 60 9 999;");
        due.same("stepCount", y.stepCount(), 64);
        due.same("turnsLeft", y.turnsLeft(), 20);
        due.same("vane", y.vane(), 90);
        due.about("A tooth has a pitch (0 to 60), a bend (at first 0), a gap (1 to 9), a strength (10 to 999)");
        due.same("soundingPitch", x.soundingPitch(0), 0);
        due.same("soundingPitch", y.soundingPitch(0), 60);
        due.same("gap", x.gap(0), 1);
        due.same("gap", y.gap(0), 9);
        due.same("bendOf", y.bendOf(0), 0);
        read("box 3 0 0;tooth 0 1 10;", 2, 4);
        read("box 65 0 0;tooth 0 1 10;", 2, 4);
        read("box 4 21 0;tooth 0 1 10;", 2, 6);
        read("box 4 0 91;tooth 0 1 10;", 2, 8);
        read("box 4 0 0;tooth 61 1 10;", 2, 16);
        read("box 4 0 0;tooth 0 0 10;", 2, 18);
        read("box 4 0 0;tooth 0 10 10;", 2, 18);
        read("box 4 0 0;tooth 0 1 9;", 2, 20);
        read("box 4 0 0;tooth 0 1 1000;", 2, 20);
    }
}
