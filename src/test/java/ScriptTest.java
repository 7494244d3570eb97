/** Promise 5 and the grammar of a script. */
public final class ScriptTest {
    private static final Due due = new Due();

    public static void main(String[] args) {
        commands();
        change();
        everyTooth();
        oneAfterAnother();
        endsBeforeFault();
        repeat();
        fortyCommands();
        syntax();
        ranges();
        tooMany();
        longText();
        due.end();
    }

    private static void error(String script, int code, int position) {
        MusicBoxEditor x = new MusicBoxEditor();
        x.setVane(41);
        String before = Due.state(x);
        due.same("script " + script, Due.script(x, script), -1);
        due.same("code of " + script, x.errorCode(), code);
        due.same("position in " + script, x.errorPosition(), position);
        due.same("text after " + script, x.truncate(0), 0);
        due.same("box after " + script, Due.state(x), before);
        due.same("undo count after " + script, x.undoCount(), 1);
    }

    private static void runs(String script, int executed) {
        MusicBoxEditor x = new MusicBoxEditor();
        due.same("script " + script, Due.script(x, script), executed);
        due.same("code of " + script, x.errorCode(), 0);
        due.same("position of " + script, x.errorPosition(), -1);
        due.same("text after " + script, x.truncate(0), 0);
        due.same("undo count after " + script, x.undoCount(), 1);
    }

    private static void commands() {
        MusicBoxEditor x = new MusicBoxEditor();
        due.same("pin", Due.script(x, "pin 2 1 6;"), 1);
        due.same("pin stands", x.isPin(2, 1, 6), true);
        due.same("unpin", Due.script(x, "unpin 0 2 4;"), 1);
        due.same("pin is gone", x.isPin(0, 2, 4), false);
        due.same("gap", Due.script(x, "gap 1 9;"), 1);
        due.same("gap", x.gap(1), 9);
        due.same("bend up", Due.script(x, "bend 0 up 3;"), 1);
        due.same("bend", x.bendOf(0), 3);
        due.same("bend down", Due.script(x, "bend 0 down 2;"), 1);
        due.same("bend", x.bendOf(0), 1);
        due.same("bend wear", x.wear(0), 6);
        due.same("mend", Due.script(x, "mend 0;"), 1);
        due.same("mended wear", x.wear(0), 0);
        due.same("mended bend", x.bendOf(0), 0);
        due.same("vane", Due.script(x, "vane 90;"), 1);
        due.same("vane", x.vane(), 90);
        due.same("wind", Due.script(x, "wind 15;"), 1);
        due.same("turns", x.turnsLeft(), 20);
        due.same("tune", Due.script(x, "tune 1;"), 1);
        due.same("tune", x.selectedTune(), 1);
        due.same("play", Due.script(x, "play 10;"), 1);
        due.same("played", x.stepsPlayed(), 10);
        due.same("notes", x.noteCount(), 3);
        due.same("contradictions", x.contradictions(), 0);
        runs("", 0);
        runs(" \n", 0);
        runs("vane 0;tune 2;vane 1;", 3);
        runs("play 300;wind 20;play 0001;", 3);
        runs("pin0 0 1;unpin0 0 1;bend0up1;", 3);
    }

    private static void change() {
        MusicBoxEditor x = new MusicBoxEditor();
        String before = Due.state(x);
        due.same("four commands", Due.script(x, "vane 3;play 5;bend 1 up 1;pin 2 2 2;"), 4);
        due.same("one change", x.undoCount(), 1);
        due.same("undo", x.undo(), 0);
        due.same("all is undone", Due.state(x), before);
        due.same("an empty script", x.runScript(), 0);
        due.same("is a change", x.undoCount(), 1);
        due.same("a script that ends at once", Due.script(x, "pin 0 0 0;"), 0);
        due.same("is a change", x.undoCount(), 2);
    }

    private static void everyTooth() {
        StringBuilder twelve = new StringBuilder("box 64 1 0;");
        for (int i = 0; i < 12; i++) {
            twelve.append("tooth 5 3 30;");
        }
        MusicBoxEditor x = Due.box(twelve.toString());
        due.same("the last of all", Due.script(x, "pin 2 11 63;gap 11 9;bend 11 up 3;"), 3);
        due.same("pin", x.isPin(2, 11, 63), true);
        due.same("gap", x.gap(11), 9);
        due.same("bend", x.bendOf(11), 3);
        due.same("the last of all", Due.script(x, "unpin 2 11 63;mend 11;"), 2);
        due.same("pin", x.isPin(2, 11, 63), false);
        due.same("bend", x.bendOf(11), 0);
    }

    private static void oneAfterAnother() {
        MusicBoxEditor x = new MusicBoxEditor();
        due.same("a script that ends at a fault", Due.script(x, "vane 1;wind 20;vane 2;"), 1);
        due.same("the next one", Due.script(x, "vane 3;vane 4;"), 2);
        due.same("vane", x.vane(), 4);
        due.same("a script of 40", Due.script(x, "repeat 20(repeat 20(vane 5;););"), 40);
        due.same("the next one", Due.script(x, "repeat 2(vane 6;);"), 2);
        due.same("a wrong one", Due.script(x, "vane 7;vane 8;vane;"), -1);
        due.same("the next one", Due.script(x, "vane 9;"), 1);
        due.same("an empty one", x.runScript(), 0);
        due.same("changes", x.undoCount(), 6);
    }

    private static void endsBeforeFault() {
        MusicBoxEditor x = new MusicBoxEditor();
        due.same("vane, pin there", Due.script(x, "vane 3;pin 0 0 0;vane 4;"), 1);
        due.same("what was before stays", x.vane(), 3);
        runs("pin 0 3 0;vane 1;", 0);
        runs("pin 0 11 0;vane 1;", 0);
        runs("pin 0 0 8;vane 1;", 0);
        runs("pin 0 0 63;vane 1;", 0);
        runs("unpin 0 0 1;vane 1;", 0);
        runs("unpin 0 3 0;vane 1;", 0);
        runs("unpin 0 0 8;vane 1;", 0);
        runs("gap 3 1;vane 1;", 0);
        runs("bend 3 up 1;vane 1;", 0);
        runs("bend 0 up 2;bend 0 up 2;", 1);
        runs("bend 0 down 2;bend 0 down 2;", 1);
        runs("bend 1 up 1;bend 1 up 1;bend 1 up 1;bend 1 down 1;bend 1 down 1;vane 1;", 4);
        runs("mend 3;vane 1;", 0);
        runs("wind 16;vane 1;", 0);
        runs("wind 15;wind 1;vane 1;", 1);
        runs("play 300;play 1;vane 1;", 1);
    }

    private static void repeat() {
        runs("repeat 3(vane 1;);", 3);
        runs("repeat 0(vane 1;);vane 2;", 1);
        runs("repeat 20();", 0);
        runs("repeat 2(vane 1;repeat 3(vane 2;);vane 3;);vane 4;", 11);
        runs("repeat 2(repeat 2(vane 1;);repeat 1(vane 2;vane 3;););", 8);
        runs("repeat 0(repeat 5(vane 2;););repeat 2(vane 3;);", 2);
        runs("repeat 3(repeat 2(););vane 7;", 1);
        runs("repeat 5(play 10;);", 4);
        runs("repeat 2(pin 2 0 0;);vane 1;", 1);
        runs("repeat 2(repeat 2(pin 2 0 0;unpin 2 0 0;);pin 2 0 0;);", 5);
        MusicBoxEditor x = new MusicBoxEditor();
        due.same("in their order", Due.script(x, "repeat 2(vane 1;repeat 2(tune 1;vane 2;);tune 2;);"), 12);
        due.same("vane", x.vane(), 2);
        due.same("tune", x.selectedTune(), 2);
        due.same("one change", x.undoCount(), 1);
        due.same("undo", x.undo(), 0);
        due.same("vane", x.vane(), 40);
    }

    private static void fortyCommands() {
        runs("repeat 20(vane 1;vane 2;);vane 3;", 40);
        runs("repeat 13(vane 1;vane 2;vane 3;);vane 4;vane 5;", 40);
        runs("repeat 20(repeat 20(vane 1;););", 40);
        runs("repeat 13(vane 1;vane 2;vane 3;);", 39);
        MusicBoxEditor x = new MusicBoxEditor();
        due.same("forty", Due.script(x, "repeat 13(vane 1;vane 2;vane 3;);vane 4;vane 5;"), 40);
        due.same("the 41st is not executed", x.vane(), 4);
        MusicBoxEditor y = new MusicBoxEditor();
        due.same("forty", Due.script(y, "repeat 20(repeat 20(tune 1;vane 1;);tune 2;);"), 40);
        due.same("no tune 2", y.selectedTune(), 1);
    }

    private static void syntax() {
        error(";", 1, 0);
        error("pin", 1, 3);
        error("pin 0 0 1", 1, 9);
        error("pin 0 0 1 ", 1, 10);
        error("pin 0 0 1 2;", 1, 10);
        error("pin 0 0;", 1, 7);
        error("vane 1;;", 1, 7);
        error("vane 1 vane 2;", 1, 7);
        error("tooth 1 2 30;", 1, 0);
        error("box 8 5 40;", 1, 0);
        error("up;", 1, 0);
        error("pins 0 0 1;", 1, 0);
        error("Vane 1;", 1, 0);
        error("vane -1;", 1, 5);
        error("vane up;", 1, 5);
        error("bend 0 1;", 1, 7);
        error("bend 0 sideways 1;", 1, 7);
        error("bend 0 up down;", 1, 10);
        error("bend up 0 1;", 1, 5);
        error("repeat (vane 1;);", 1, 7);
        error("repeat 2 vane 1;;", 1, 9);
        error("repeat 2 );", 1, 9);
        error("repeat 2(vane 1);", 1, 15);
        error("repeat 2(vane 1;;", 1, 16);
        error("repeat 2(vane 1;", 1, 16);
        error("repeat 2(vane 1;) ", 1, 18);
        error("repeat 2(vane 1;)vane 2;", 1, 17);
        error("repeat 2(vane 1;)));", 1, 17);
        error("vane 1;)", 1, 7);
        error("vane 1;(", 1, 7);
        error("(vane 1;);", 1, 0);
        error("repeat 2((vane 1;););", 1, 9);
        error("vane 1;\u00ff", 1, 7);
        error("vane 1;\tvane 2;", 1, 7);
    }

    private static void ranges() {
        for (String word : new String[] {"pin", "unpin"}) {
            int at = word.length() + 1;
            error(word + " 3 0 0;", 2, at);
            error(word + " 0 12 0;", 2, at + 2);
            error(word + " 0 0 64;", 2, at + 4);
        }
        error("gap 12 1;", 2, 4);
        error("gap 0 0;", 2, 6);
        error("gap 0 10;", 2, 6);
        error("bend 12 up 1;", 2, 5);
        error("bend 0 up 0;", 2, 10);
        error("bend 0 down 4;", 2, 12);
        error("mend 12;", 2, 5);
        error("vane 91;", 2, 5);
        error("wind 0;", 2, 5);
        error("wind 21;", 2, 5);
        error("tune 3;", 2, 5);
        error("play 0;", 2, 5);
        error("play 301;", 2, 5);
        error("play 4294967297;", 2, 5);
        error("repeat 21(vane 1;);", 2, 7);
        error("vane 3;vane 99;bad", 2, 12);
        runs("gap 0 1;gap 0 9;vane 90;vane 0;tune 2;tune 0;repeat 20();repeat 0();", 6);
    }

    private static void tooMany() {
        StringBuilder thirty = new StringBuilder();
        for (int i = 0; i < 30; i++) {
            thirty.append("vane ").append(i).append(";\n");
        }
        int length = thirty.length();
        runs(thirty.toString(), 30);
        error(thirty + "vane 1;", 4, length);
        error(thirty + "vane", 4, length);
        error(thirty + "repeat 2();", 4, length);
        error(thirty + "nothing", 1, length);
        error(thirty + "(", 1, length);
        StringBuilder bracket = new StringBuilder("repeat 1(");
        for (int i = 0; i < 29; i++) {
            bracket.append("tune 1;");
        }
        runs(bracket + ");", 29);
        error(bracket + "tune 1;);", 4, bracket.length());
        error(bracket + ");tune 1;", 4, bracket.length() + 2);
        error("repeat 1(repeat 1(repeat 1(vane 1;);););", 4, 26);
        error("repeat 1(repeat 1(repeat 1(", 4, 26);
        error("repeat 1(repeat 1(repeat 1", 1, 26);
        error("repeat 1(repeat 1(repeat 1 ;", 1, 27);
        error("repeat 1(repeat 1(repeat 1)", 1, 26);
        error("repeat 1(repeat 1((", 1, 18);
        error("repeat 0(repeat 0(vane 1;);repeat 0(repeat 0(", 4, 44);
        runs("repeat 1(repeat 1(vane 1;);repeat 1(vane 2;););repeat 1(repeat 1(vane 3;););", 3);
    }

    private static void longText() {
        StringBuilder text = new StringBuilder();
        for (int i = 0; i < 797; i++) {
            text.append(' ');
        }
        error(text + "abc", 1, 797);
        error(text + "  .", 1, 799);
        error(text.substring(0, 790) + "vane 1;van", 1, 797);
        StringBuilder signs = new StringBuilder("vane ");
        for (int i = 0; i < 792; i++) {
            signs.append('0');
        }
        runs(signs + "09;", 1);
        error(signs + "91;", 2, 5);
        StringBuilder open = new StringBuilder();
        for (int i = 0; i < 800; i++) {
            open.append('(');
        }
        error(open.toString(), 1, 0);
    }
}
