/** The edges of promise 5 and of the grammar of a script, sentence by sentence. */
public final class EdgeScriptTest {
    private static final Due due = new Due();
    private static final String NEW_BOX = Due.state(new MusicBoxEditor());
    private static final String[] COMMANDS = {"pin", "unpin", "gap", "bend", "mend", "vane", "wind", "tune", "play", "repeat"};
    private static final String[] COMMANDS_AND_END = {"pin", "unpin", "gap", "bend", "mend", "vane", "wind", "tune", "play",
        "repeat", ""};
    private static final String[] COMMANDS_AND_BRACKET = {"pin", "unpin", "gap", "bend", "mend", "vane", "wind", "tune",
        "play", "repeat", ")"};

    public static void main(String[] args) {
        grammarOfEachCommand();
        grammarOfRepeat();
        emptyScript();
        rangesAreNotThoseOfTheBox();
        thirtyCommands();
        thirtyFirstInBrackets();
        bracketInsideOfTwo();
        firstErrorIsTold();
        smallestCodeIsTold();
        meaningOfEachCommand();
        negativeAmountForDown();
        endsBeforeEachFault();
        endsOutOfRepeats();
        fortyCommands();
        repeatIsNotCounted();
        noTimes();
        mostTimes();
        commandsBeforeStay();
        answersWithAnError();
        emptiesTheBuffer();
        oneChange();
        errorIsNoChange();
        oneScriptAfterAnother();
        due.end();
    }

    private static void read(String script, int code, int position) {
        MusicBoxEditor x = new MusicBoxEditor();
        int answer = Due.script(x, script);
        due.same("script " + script + " is refused", answer == -1, code != 0);
        due.same("errorCode of " + script, x.errorCode(), code);
        due.same("errorPosition in " + script, x.errorPosition(), position);
        due.same("the text behind " + script, x.append(0, 0, 0, 0, 0), 0);
        due.same("undoCount behind " + script, x.undoCount(), code == 0 ? 1 : 0);
        if (code != 0) {
            due.same("the box behind " + script, Due.state(x), NEW_BOX);
        }
    }

    private static void runs(String script, int executed) {
        MusicBoxEditor x = new MusicBoxEditor();
        due.same("script " + script, Due.script(x, script), executed);
        due.same("errorCode of " + script, x.errorCode(), 0);
        due.same("errorPosition in " + script, x.errorPosition(), -1);
    }

    private static void spoil(SpoiltText text) {
        due.about("Parses the text buffer as a script");
        text.wholeText(EdgeScriptTest::read);
        due.about("the length of the text if the text ends too early");
        text.endsTooEarly(EdgeScriptTest::read);
        due.about("a token is invalid or not allowed at its place");
        text.wrongTokens(EdgeScriptTest::read);
        due.about("a number is out of its range");
        text.endsOfRanges(EdgeScriptTest::read);
    }

    private static SpoiltText command(String word) {
        return new SpoiltText().token(word, COMMANDS_AND_END);
    }

    private static void grammarOfEachCommand() {
        spoil(command("pin").number(1, 0, 2).number(2, 0, 11).number(3, 0, 63).token(";").end(COMMANDS));
        spoil(command("unpin").number(1, 0, 2).number(2, 0, 11).number(3, 0, 63).token(";").end(COMMANDS));
        spoil(command("gap").number(2, 0, 11).number(3, 1, 9).token(";").end(COMMANDS));
        spoil(command("bend").number(2, 0, 11).token("up", "down").number(1, 1, 3).token(";").end(COMMANDS));
        spoil(command("bend").number(2, 0, 11).token("down", "up").number(1, 1, 3).token(";").end(COMMANDS));
        spoil(command("mend").number(2, 0, 11).token(";").end(COMMANDS));
        spoil(command("vane").number(7, 0, 90).token(";").end(COMMANDS));
        spoil(command("wind").number(7, 1, 20).token(";").end(COMMANDS));
        spoil(command("tune").number(1, 0, 2).token(";").end(COMMANDS));
        spoil(command("play").number(7, 1, 300).token(";").end(COMMANDS));
    }

    private static void grammarOfRepeat() {
        spoil(command("repeat").number(2, 0, 20).token("(")
                .token("vane", COMMANDS_AND_BRACKET).number(7, 0, 90).token(";")
                .token("tune", COMMANDS_AND_BRACKET).number(1, 0, 2).token(";")
                .token(")", COMMANDS).token(";").token("vane", COMMANDS_AND_END).number(7, 0, 90).token(";").end(COMMANDS));
        spoil(command("repeat").number(2, 0, 20).token("(").token(")", COMMANDS).token(";").end(COMMANDS));
        spoil(command("repeat").number(2, 0, 20).token("(")
                .token("repeat", COMMANDS_AND_BRACKET).number(3, 0, 20).token("(")
                .token("mend", COMMANDS_AND_BRACKET).number(0, 0, 11).token(";")
                .token(")", COMMANDS).token(";").token(")", COMMANDS).token(";").end(COMMANDS));
    }

    private static void emptyScript() {
        due.about("script = { command \";\" }");
        runs("", 0);
        runs("  \n ", 0);
        runs("vane 1;", 1);
        runs("vane 1;vane 2;", 2);
        read(";", 1, 0);
        due.about("\"repeat\" times \"(\" script \")\"");
        runs("repeat 1();", 0);
        runs("repeat 20(repeat 20(););vane 1;", 1);
        MusicBoxEditor x = new MusicBoxEditor();
        due.same("an empty script is a change too", x.runScript(), 0);
        due.same("undoCount", x.undoCount(), 1);
    }

    private static void rangesAreNotThoseOfTheBox() {
        due.about("In a script, a tooth is 0 to 11, a step is 0 to 63");
        runs("pin 0 3 0;", 0);
        runs("pin 0 11 0;", 0);
        runs("pin 0 0 8;", 0);
        runs("pin 2 11 63;", 0);
        runs("unpin 2 11 63;", 0);
        runs("gap 11 9;", 0);
        runs("bend 11 up 3;", 0);
        runs("mend 11;", 0);
        read("pin 0 12 0;", 2, 6);
        read("pin 0 0 64;", 2, 8);
        MusicBoxEditor x = Due.box("box 64 1 0;" + Due.times(12, "tooth 5 3 30;"));
        due.same("the last of all", Due.script(x, "pin 2 11 63;gap 11 9;bend 11 down 3;tune 2;"), 4);
        due.same("isPin", x.isPin(2, 11, 63), true);
        due.same("gap", x.gap(11), 9);
        due.same("bendOf", x.bendOf(11), -3);
        due.same("the last of all", Due.script(x, "unpin 2 11 63;mend 11;"), 2);
        due.same("isPin", x.isPin(2, 11, 63), false);
        due.same("bendOf", x.bendOf(11), 0);
    }

    private static void thirtyCommands() {
        due.about("in a script the word of a 31st command");
        String thirty = Due.times(30, "vane 1;");
        int length = thirty.length();
        runs(thirty, 30);
        runs(thirty + " \n", 30);
        for (String word : COMMANDS) {
            read(thirty + word, 4, length);
            read(thirty + "  " + word + " 0 0 0;", 4, length + 2);
        }
        read(thirty + "zzz", 1, length);
        read(thirty + "tooth", 1, length);
        read(thirty + "7", 1, length);
        read(thirty + ";", 1, length);
        read(thirty + "(", 1, length);
        read(thirty + ")", 1, length);
    }

    private static void thirtyFirstInBrackets() {
        due.about("those in brackets and repeat included");
        String bracket = "repeat 1(" + Due.times(29, "tune 1;");
        runs(bracket + ");", 29);
        read(bracket + "tune 1;);", 4, bracket.length());
        read(bracket + ");tune 1;", 4, bracket.length() + 2);
        String two = "repeat 1(repeat 1(" + Due.times(28, "tune 1;");
        runs(two + "););", 28);
        read(two + "tune 1;););", 4, two.length());
        read(two + ");tune 1;);", 4, two.length() + 2);
        read(two + "););tune 1;", 4, two.length() + 4);
        String repeats = Due.times(30, "repeat 0();");
        runs(repeats, 0);
        read(repeats + "vane 1;", 4, repeats.length());
        read(repeats + "repeat 0();", 4, repeats.length());
        String unused = "repeat 0(" + Due.times(29, "tune 1;") + ");";
        runs(unused, 0);
        read(unused + "vane 1;", 4, unused.length());
        String times = "repeat 20(" + Due.times(28, "tune 1;") + ");";
        runs(times + "vane 1;", 40);
        read(times + "vane 1;vane 1;", 4, times.length() + 7);
    }

    private static void bracketInsideOfTwo() {
        due.about("or the bracket ( inside of two others");
        runs("repeat 1(repeat 1(vane 1;););", 1);
        read("repeat 1(repeat 1(repeat 1(", 4, 26);
        read("repeat 1(repeat 1(repeat 1(vane 1;);););", 4, 26);
        read("repeat 1(repeat 1(vane 1;repeat 1(vane 1;);););", 4, 33);
        read("repeat 0(repeat 0(repeat 0 \n(", 4, 28);
        read("repeat 1(repeat 1(repeat 1", 1, 26);
        read("repeat 1(repeat 1(repeat (", 1, 25);
        read("repeat 1(repeat 1(repeat 1 )", 1, 27);
        read("repeat 1(repeat 1(repeat 21(", 2, 25);
        runs("repeat 1(repeat 1(vane 1;);repeat 1(vane 2;););", 2);
        runs("repeat 1(repeat 1(vane 1;););repeat 1(repeat 1(vane 2;););", 2);
        runs("repeat 1(vane 1;);repeat 1(vane 2;);repeat 1(vane 3;);", 3);
        read("repeat 1(repeat 1(););repeat 1(repeat 1(repeat 1(", 4, 48);
    }

    private static void firstErrorIsTold() {
        due.about("stops at the first token that has an error");
        read("pin 3 12 64", 2, 4);
        read("pin 2 12 64", 2, 6);
        read("vane 91;zzz", 2, 5);
        read("vane 91 zzz", 2, 5);
        read("zzz;vane 91;", 1, 0);
        read("bend 12 sideways 4", 2, 5);
        read("bend 11 sideways 4", 1, 8);
        read("bend 11 up 4", 2, 11);
        read("repeat 1(repeat 1(repeat 1(vane 91;zzz", 4, 26);
        read(Due.times(31, "vane 1;") + "zzz", 4, 210);
        read(Due.times(29, "vane 1;") + "vane 91;vane 1;", 2, 208);
    }

    private static void smallestCodeIsTold() {
        due.about("If several kinds of errors apply to this token, the smallest code is reported");
        // A word of a 31st command, a bracket inside of two others, and numbers out of range where none is allowed.
        read(Due.times(29, "vane 1;") + "vane 1 vane 1;", 1, 210);
        read(Due.times(29, "vane 1;") + "vane vane 1;", 1, 208);
        read("repeat 1(repeat 1((", 1, 18);
        read("repeat 1(repeat 1(vane (", 1, 23);
        read("repeat 1(repeat 1(vane 1;)(", 1, 26);
        read("vane 1 999;", 1, 7);
        read("vane 1;999;", 1, 7);
        read("bend 0 99 1;", 1, 7);
    }

    private static void meaningOfEachCommand() {
        due.about("Each command calls the method with the same meaning");
        MusicBoxEditor x = new MusicBoxEditor();
        due.same("pin", Due.script(x, "pin 2 1 7;"), 1);
        due.same("isPin", x.isPin(2, 1, 7), true);
        due.same("pinCount", x.pinCount(2), 1);
        due.same("unpin", Due.script(x, "unpin 2 1 7;"), 1);
        due.same("isPin", x.isPin(2, 1, 7), false);
        due.same("gap", Due.script(x, "gap 2 9;"), 1);
        due.same("gap(2)", x.gap(2), 9);
        due.same("gap(1)", x.gap(1), 2);
        due.same("bend", Due.script(x, "bend 2 up 3;"), 1);
        due.same("bendOf(2)", x.bendOf(2), 3);
        due.same("wear(2)", x.wear(2), 3);
        due.same("mend", Due.script(x, "mend 2;"), 1);
        due.same("bendOf(2)", x.bendOf(2), 0);
        due.same("wear(2)", x.wear(2), 0);
        due.same("contradictions", x.contradictions(), 0);
        due.same("vane", Due.script(x, "vane 90;"), 1);
        due.same("vane()", x.vane(), 90);
        due.same("wind", Due.script(x, "wind 15;"), 1);
        due.same("turnsLeft", x.turnsLeft(), 20);
        due.same("tune", Due.script(x, "tune 1;"), 1);
        due.same("selectedTune", x.selectedTune(), 1);
        due.same("play", Due.script(x, "play 160;"), 1);
        due.same("stepsPlayed", x.stepsPlayed(), 160);
        due.same("turnsLeft", x.turnsLeft(), 0);
        MusicBoxEditor y = Due.box("box 64 20 0;tooth 5 3 30;");
        due.same("play 300", Due.script(y, "play 300;"), 1);
        due.same("stepsPlayed", y.stepsPlayed(), 300);
        due.same("play 300, of which no more can be played than 980", Due.script(y, "play 300;play 300;play 300;play 300;"), 4);
        due.same("stepsPlayed", y.stepsPlayed(), 1280);
        due.same("wind 20", Due.script(y, "wind 20;"), 1);
        due.same("turnsLeft", y.turnsLeft(), 20);
    }

    private static void negativeAmountForDown() {
        due.about("bend (with a negative amount for \"down\")");
        MusicBoxEditor x = new MusicBoxEditor();
        due.same("down 3", Due.script(x, "bend 2 down 3;"), 1);
        due.same("bendOf", x.bendOf(2), -3);
        due.same("down 1 under -3", Due.script(x, "bend 2 down 1;"), 0);
        due.same("bendOf", x.bendOf(2), -3);
        due.same("up 3 and up 3", Due.script(x, "bend 2 up 3;bend 2 up 3;"), 2);
        due.same("bendOf", x.bendOf(2), 3);
        due.same("up 1 over 3", Due.script(x, "bend 2 up 1;"), 0);
        due.same("down 1", Due.script(x, "bend 2 down 1;"), 1);
        due.same("bendOf", x.bendOf(2), 2);
    }

    /** The vane shows that the command ahead of the fault was executed, and none behind it. */
    private static void endsAt(String fault) {
        MusicBoxEditor x = new MusicBoxEditor();
        x.play(12); // breaks tooth 1
        x.bend(0, 3);
        due.same("vane 1;" + fault, Due.script(x, "vane 1;" + fault + "vane 2;"), 1);
        due.same("vane behind " + fault, x.vane(), 1);
        due.same("undo", x.undo(), 2);
        due.same("vane behind undo of " + fault, x.vane(), 40);
        String before = Due.state(x);
        due.same(fault + " alone", Due.script(x, fault + "vane 2;"), 0);
        due.same("state behind " + fault, Due.state(x), before);
        due.same("undoCount", x.undoCount(), 3);
        due.same("errorCode", x.errorCode(), 0);
    }

    private static void endsBeforeEachFault() {
        due.about("The execution ends before the first command whose method would throw an exception");
        endsAt("pin 0 0 0;");
        endsAt("pin 0 3 0;");
        endsAt("pin 0 0 8;");
        endsAt("unpin 0 0 1;");
        endsAt("unpin 0 3 0;");
        endsAt("unpin 0 0 8;");
        endsAt("gap 3 1;");
        endsAt("gap 11 9;");
        endsAt("bend 3 up 1;");
        endsAt("bend 1 up 1;");
        endsAt("bend 1 down 1;");
        endsAt("bend 0 up 1;");
        endsAt("mend 3;");
        endsAt("mend 11;");
        endsAt("wind 20;");
        endsAt("wind 17;");
        MusicBoxEditor x = new MusicBoxEditor();
        due.same("play without turns", Due.script(x, "play 300;play 1;vane 2;"), 1);
        due.same("vane", x.vane(), 40);
        due.same("wind and play", Due.script(x, "wind 20;play 1;wind 1;"), 2);
        due.same("turnsLeft", x.turnsLeft(), 20);
        due.same("a turn is free at the end of the roll", Due.script(x, "play 7;wind 1;play 1;"), 3);
        due.same("turnsLeft", x.turnsLeft(), 20);
    }

    private static void endsOutOfRepeats() {
        due.about("The execution ends before the first command whose method would throw an exception");
        MusicBoxEditor x = new MusicBoxEditor();
        due.same("out of one repeat", Due.script(x, "repeat 3(pin 2 0 0;vane 1;);vane 2;"), 2);
        due.same("vane", x.vane(), 1);
        MusicBoxEditor y = new MusicBoxEditor();
        due.same("out of two repeats",
                Due.script(y, "repeat 3(vane 1;repeat 3(vane 2;pin 2 0 0;);vane 3;);vane 4;"), 4);
        due.same("vane", y.vane(), 2);
        runs("repeat 20(play 9;);vane 1;", 5);
        runs("repeat 2(repeat 2(pin 2 0 0;unpin 2 0 0;);pin 2 0 0;);vane 1;", 5);
    }

    private static void fortyCommands() {
        due.about("and after 40 commands");
        runs("repeat 13(vane 1;vane 2;vane 3;);", 39);
        runs("repeat 13(vane 1;vane 2;vane 3;);vane 4;", 40);
        MusicBoxEditor x = new MusicBoxEditor();
        due.same("41", Due.script(x, "repeat 13(vane 1;vane 2;vane 3;);vane 4;vane 5;"), 40);
        due.same("the 41st is not executed", x.vane(), 4);
        due.same("errorCode", x.errorCode(), 0);
        due.same("undoCount", x.undoCount(), 1);
        MusicBoxEditor y = new MusicBoxEditor();
        due.same("400", Due.script(y, "repeat 20(repeat 20(tune 1;);tune 2;);"), 40);
        due.same("40 are 20, 1 and 19", y.selectedTune(), 1);
        runs("repeat 20(vane 1;vane 2;);", 40);
        runs("repeat 20(vane 1;vane 2;);pin 0 0 0;", 40);
        MusicBoxEditor z = Due.box("box 64 20 0;tooth 5 3 30;");
        due.same("40 times 32 steps", Due.script(z, "repeat 20(repeat 20(play 32;););"), 40);
        due.same("stepsPlayed", z.stepsPlayed(), 1280);
    }

    private static void repeatIsNotCounted() {
        due.about("\"repeat\" itself is not counted");
        runs("repeat 1(vane 1;);", 1);
        runs("repeat 1(repeat 1(vane 1;););", 1);
        runs("repeat 20(repeat 20(););vane 1;", 1);
        MusicBoxEditor x = new MusicBoxEditor();
        due.same("40 in repeats", Due.script(x, "repeat 20(repeat 1(vane 1;);repeat 1(vane 2;););vane 3;"), 40);
        due.same("vane", x.vane(), 2);
        runs("repeat 20(repeat 1(vane 1;);repeat 0(vane 2;););vane 3;", 21);
    }

    private static void noTimes() {
        due.about("times is 0 to 20");
        MusicBoxEditor x = new MusicBoxEditor();
        due.same("no times", Due.script(x, "repeat 0(vane 1;pin 0 0 0;);tune 1;"), 1);
        due.same("vane", x.vane(), 40);
        due.same("selectedTune", x.selectedTune(), 1);
        runs("repeat 0(repeat 20(vane 1;);vane 2;);vane 3;", 1);
        runs("repeat 5(repeat 0(vane 1;);vane 2;);vane 3;", 6);
        read("repeat 0(vane 91;);", 2, 14);
        read("repeat 0(zzz;);", 1, 9);
    }

    private static void mostTimes() {
        due.about("times is 0 to 20");
        runs("repeat 20(vane 1;);", 20);
        runs("repeat 19(vane 1;);vane 2;", 20);
        read("repeat 21(vane 1;);", 2, 7);
        MusicBoxEditor x = Due.box("box 64 1 0;tooth 5 3 30;");
        due.same("repeat 20 (play 3)", Due.script(x, "repeat 20(play 3;);"), 20);
        due.same("stepsPlayed", x.stepsPlayed(), 60);
        due.same("repeat 2 (repeat 3 (play 1); play 2)", Due.script(Due.box("box 64 1 0;tooth 5 3 30;"),
                "repeat 2(repeat 3(play 1;);play 2;);"), 8);
    }

    private static void commandsBeforeStay() {
        due.about("Commands that were executed before stay in effect");
        MusicBoxEditor x = new MusicBoxEditor();
        due.same("three and a fault", Due.script(x, "pin 2 0 0;gap 1 9;play 3;wind 20;unpin 2 0 0;"), 3);
        due.same("isPin", x.isPin(2, 0, 0), true);
        due.same("gap", x.gap(1), 9);
        due.same("stepsPlayed", x.stepsPlayed(), 3);
        due.same("turnsLeft", x.turnsLeft(), 5);
        due.same("undo takes them all back", x.undo(), 0);
        due.same("state", Due.state(x), Due.state(new MusicBoxEditor()));
    }

    private static void answersWithAnError() {
        due.about("or NONE if the text has an error");
        MusicBoxEditor x = new MusicBoxEditor();
        String before = Due.state(x);
        due.same("an error at the end", Due.script(x, "vane 1;play 5;wind"), -1);
        due.same("nothing was executed", Due.state(x), before);
        due.same("an error in a repeat", Due.script(x, "vane 1;repeat 2(play 5;vane 99;);"), -1);
        due.same("a 31st command", Due.script(x, Due.times(31, "vane 1;")), -1);
        due.same("a setup", Due.script(x, "box 8 5 40;tooth 5 3 30;"), -1);
        due.same("nothing was executed", Due.state(x), before);
        due.about("Returns the number of executed commands");
        due.same("none", Due.script(x, "pin 0 0 0;"), 0);
    }

    private static void emptiesTheBuffer() {
        due.about("empties the buffer");
        MusicBoxEditor x = new MusicBoxEditor();
        due.same("a script", Due.script(x, "vane 1;"), 1);
        due.same("truncate(0)", x.truncate(0), 0);
        due.same("the same once more", x.runScript(), 0);
        due.same("a wrong script", Due.script(x, "vane 91;"), -1);
        due.same("truncate(0)", x.truncate(0), 0);
        due.badArgument("truncate(1)", () -> x.truncate(1));
        due.same("a script that ends at a fault", Due.script(x, "pin 0 0 0;"), 0);
        due.same("truncate(0)", x.truncate(0), 0);
        due.same("a script of 41", Due.script(x, "repeat 20(vane 1;vane 2;vane 3;);"), 40);
        due.same("append", x.append(0x01000000, 0, 0, 0, 0), 1);
    }

    private static void oneChange() {
        due.about("The methods that are marked as changes are recorded, a script as one change");
        MusicBoxEditor x = new MusicBoxEditor();
        String before = Due.state(x);
        due.same("many commands", Due.script(x, "repeat 9(vane 1;play 1;);bend 0 up 1;tune 2;mend 0;"), 21);
        due.same("undoCount", x.undoCount(), 1);
        due.same("undo", x.undo(), 0);
        due.same("state", Due.state(x), before);
        for (int i = 1; i <= 9; i++) {
            due.same("script", Due.script(x, "vane " + i + ";vane " + (i + 50) + ";"), 2);
            due.same("undoCount", x.undoCount(), Math.min(8, i));
        }
        for (int i = 8; i >= 1; i--) {
            due.same("undo", x.undo(), i - 1);
            due.same("vane", x.vane(), i + 50);
        }
        due.badState("undo of the ninth", x::undo);
    }

    private static void errorIsNoChange() {
        due.about("then the call is not a change");
        MusicBoxEditor x = new MusicBoxEditor();
        due.same("a wrong script", Due.script(x, "vane 91;"), -1);
        due.same("undoCount", x.undoCount(), 0);
        due.badState("undo", x::undo);
        for (int i = 1; i <= 8; i++) {
            x.setVane(i);
        }
        due.same("a wrong script", Due.script(x, "vane 10;vane"), -1);
        due.same("undoCount", x.undoCount(), 8);
        for (int i = 7; i >= 0; i--) {
            due.same("undo", x.undo(), i);
            due.same("vane", x.vane(), i == 0 ? 40 : i);
        }
    }

    private static void oneScriptAfterAnother() {
        due.about("Returns the number of executed commands");
        MusicBoxEditor x = new MusicBoxEditor();
        due.same("one that ends at a fault", Due.script(x, "vane 1;wind 20;vane 2;"), 1);
        due.same("the next", Due.script(x, "vane 3;vane 4;"), 2);
        due.same("one of 40", Due.script(x, "repeat 20(repeat 20(vane 5;););"), 40);
        due.same("the next", Due.script(x, "repeat 2(vane 6;);"), 2);
        due.same("one of 30 in the text", Due.script(x, Due.times(30, "vane 7;")), 30);
        due.same("the next of 30", Due.script(x, Due.times(30, "vane 8;")), 30);
        due.same("a wrong one of 31", Due.script(x, Due.times(31, "vane 9;")), -1);
        due.same("the next", Due.script(x, "vane 9;"), 1);
        due.same("a wrong one inside of two brackets", Due.script(x, "repeat 1(repeat 1(repeat 1("), -1);
        due.same("the next inside of two", Due.script(x, "repeat 1(repeat 1(vane 10;););"), 1);
        due.same("an empty one", x.runScript(), 0);
        due.same("vane", x.vane(), 10);
    }
}
