/** The edges of promises 25 to 29 and 50 to 52, and of the spring, the vane and playing, sentence by sentence. */
public final class EdgeSpringTest {
    private static final Due due = new Due();

    public static void main(String[] args) {
        turnsAndAngleAtTheirEnds();
        tempoRoundedDown();
        secondsAtTheEnds();
        setVane();
        windRange();
        windOverTwenty();
        playRange();
        playWithoutTurns();
        playEndsWithTheTurns();
        playToTheVeryEnd();
        turnEndsWithTheRoll();
        pluckAheadOfTheEnd();
        chordsArePlucked();
        brokenInTheMiddle();
        stepIsCounted();
        changesOfNothing();
        lastOfTheCalls();
        due.end();
    }

    private static void turnsAndAngleAtTheirEnds() {
        due.about("@return 0 to 20; an angle from 0 to 90");
        MusicBoxEditor x = Due.box("box 4 0 0;tooth 5 3 30;");
        due.same("no turns", x.turnsLeft(), 0);
        due.same("vane", x.vane(), 0);
        MusicBoxEditor y = Due.box("box 4 20 90;tooth 5 3 30;");
        due.same("all turns", y.turnsLeft(), 20);
        due.same("vane", y.vane(), 90);
    }

    private static void tempoRoundedDown() {
        due.about("(60 plus 4 times the turns) times (100 minus the angle) divided by 100, rounded down");
        due.same("0 turns, 0", Due.box("box 4 0 0;tooth 5 3 30;").tempo(), 60);
        due.same("0 turns, 90", Due.box("box 4 0 90;tooth 5 3 30;").tempo(), 6);
        due.same("20 turns, 0", Due.box("box 4 20 0;tooth 5 3 30;").tempo(), 140);
        due.same("20 turns, 90", Due.box("box 4 20 90;tooth 5 3 30;").tempo(), 14);
        due.same("59.40", Due.box("box 4 0 1;tooth 5 3 30;").tempo(), 59);
        due.same("63.36", Due.box("box 4 1 1;tooth 5 3 30;").tempo(), 63);
        due.same("138.60", Due.box("box 4 20 1;tooth 5 3 30;").tempo(), 138);
        due.same("6.60", Due.box("box 4 0 89;tooth 5 3 30;").tempo(), 6);
        due.same("19.80", Due.box("box 4 0 67;tooth 5 3 30;").tempo(), 19);
        due.same("20.40", Due.box("box 4 0 66;tooth 5 3 30;").tempo(), 20);
        due.same("30", Due.box("box 4 0 50;tooth 5 3 30;").tempo(), 30);
        MusicBoxEditor x = Due.box("box 4 2 0;tooth 5 3 30;");
        due.same("2 turns", x.tempo(), 68);
        x.play(3);
        due.same("2 turns until the roll is around", x.tempo(), 68);
        x.play(1);
        due.same("1 turn", x.tempo(), 64);
        x.play(4);
        due.same("no turn", x.tempo(), 60);
    }

    private static void secondsAtTheEnds() {
        due.about("60.0 divided by the tempo, converted to double; as doubleToLongBits of Double represents it");
        seconds(0, 0, 60);
        seconds(0, 90, 6);
        seconds(20, 0, 140);
        seconds(20, 90, 14);
        seconds(1, 0, 64);
        seconds(0, 50, 30);
        seconds(0, 49, 30);
        seconds(0, 1, 59);
        seconds(0, 75, 15);
        seconds(1, 10, 57);
        due.same("bits of 1.0", Due.box("box 4 0 0;tooth 5 3 30;").secondsPerStepBits(), 0x3ff0000000000000L);
        due.same("bits of 10.0", Due.box("box 4 0 90;tooth 5 3 30;").secondsPerStepBits(), 0x4024000000000000L);
        due.same("bits of 2.0", Due.box("box 4 0 50;tooth 5 3 30;").secondsPerStepBits(), 0x4000000000000000L);
        due.same("bits of 60 / 140", Due.box("box 4 20 0;tooth 5 3 30;").secondsPerStepBits(), 0x3fdb6db6db6db6dbL);
    }

    private static void seconds(int turns, int angle, int tempo) {
        MusicBoxEditor x = Due.box("box 4 " + turns + " " + angle + ";tooth 5 3 30;");
        due.same("tempo", x.tempo(), tempo);
        due.same("seconds at " + tempo, x.secondsPerStep(), 60.0 / (double) tempo);
        due.same("bits at " + tempo, x.secondsPerStepBits(), Double.doubleToLongBits(60.0 / (double) tempo));
    }

    private static void setVane() {
        due.about("angle: 0 to 90");
        MusicBoxEditor x = new MusicBoxEditor();
        due.same("setVane(0)", x.setVane(0), 40);
        due.same("vane", x.vane(), 0);
        due.same("setVane(90)", x.setVane(90), 0);
        due.same("vane", x.vane(), 90);
        due.badArgument("setVane(91)", () -> x.setVane(91));
        due.badArgument("setVane(-1)", () -> x.setVane(-1));
        due.badArgument("setVane(least int)", () -> x.setVane(Integer.MIN_VALUE));
        due.badArgument("setVane(greatest int)", () -> x.setVane(Integer.MAX_VALUE));
        due.same("vane", x.vane(), 90);
        due.same("setVane(90) again", x.setVane(90), 90);
        due.same("undoCount", x.undoCount(), 3);
    }

    private static void windRange() {
        due.about("turns: 1 to 20");
        MusicBoxEditor x = Due.box("box 4 0 0;tooth 5 3 30;");
        due.badArgument("wind(0)", () -> x.wind(0));
        due.badArgument("wind(-1)", () -> x.wind(-1));
        due.badArgument("wind(21)", () -> x.wind(21));
        due.badArgument("wind(least int)", () -> x.wind(Integer.MIN_VALUE));
        due.badArgument("wind(greatest int)", () -> x.wind(Integer.MAX_VALUE));
        due.same("undoCount", x.undoCount(), 0);
        due.same("wind(1)", x.wind(1), 1);
        due.same("wind(19)", x.wind(19), 20);
        due.same("wind(20) of none", Due.box("box 4 0 0;tooth 5 3 30;").wind(20), 20);
    }

    private static void windOverTwenty() {
        due.about("Throws IllegalStateException if more than 20 turns would be left");
        for (int turns = 0; turns <= 20; turns++) {
            for (int by = 1; by <= 20; by++) {
                MusicBoxEditor x = Due.box("box 4 " + turns + " 0;tooth 5 3 30;");
                int more = by;
                String what = "wind(" + by + ") with " + turns;
                if (turns + by > 20) {
                    due.badState(what, () -> x.wind(more));
                    due.same("turnsLeft behind " + what, x.turnsLeft(), turns);
                    due.same("undoCount behind " + what, x.undoCount(), 0);
                } else {
                    due.same(what, x.wind(by), turns + by);
                    due.same("turnsLeft behind " + what, x.turnsLeft(), turns + by);
                }
            }
        }
        due.about("If several exceptions apply, the one that is listed first is thrown");
        MusicBoxEditor y = Due.box("box 4 20 0;tooth 5 3 30;");
        due.badArgument("wind(21) with 20", () -> y.wind(21));
        due.badArgument("wind(greatest int) with 20", () -> y.wind(Integer.MAX_VALUE));
        due.badState("wind(1) with 20", () -> y.wind(1));
        due.same("play", y.play(3), 3);
        due.badState("wind(1) ahead of the last step", () -> y.wind(1));
        due.same("play", y.play(1), 1);
        due.same("wind(1) behind the last step", y.wind(1), 20);
    }

    private static void playRange() {
        due.about("steps: 1 to 300");
        MusicBoxEditor x = Due.box("box 64 20 0;tooth 5 3 30;");
        due.badArgument("play(0)", () -> x.play(0));
        due.badArgument("play(-1)", () -> x.play(-1));
        due.badArgument("play(301)", () -> x.play(301));
        due.badArgument("play(least int)", () -> x.play(Integer.MIN_VALUE));
        due.badArgument("play(greatest int)", () -> x.play(Integer.MAX_VALUE));
        due.same("stepsPlayed", x.stepsPlayed(), 0);
        due.same("undoCount", x.undoCount(), 0);
        due.same("play(1)", x.play(1), 1);
        due.same("play(300)", x.play(300), 300);
        due.same("stepsPlayed", x.stepsPlayed(), 301);
        due.same("undoCount", x.undoCount(), 2);
    }

    private static void playWithoutTurns() {
        due.about("Throws IllegalStateException if the turns are 0");
        MusicBoxEditor x = Due.box("box 4 0 0;tooth 5 3 30;pin 0 0 0;");
        due.badState("play(1)", () -> x.play(1));
        due.badState("play(300)", () -> x.play(300));
        due.about("If several exceptions apply, the one that is listed first is thrown");
        due.badArgument("play(0)", () -> x.play(0));
        due.badArgument("play(301)", () -> x.play(301));
        due.badArgument("play(-1)", () -> x.play(-1));
        due.about("If the turns are 0, nothing can be played");
        due.same("undoCount", x.undoCount(), 0);
        due.same("stepsPlayed", x.stepsPlayed(), 0);
        due.same("noteCount", x.noteCount(), 0);
        due.same("silence", x.silence(0), 99);
        x.wind(1);
        due.same("behind wind(1)", x.play(300), 4);
        due.badState("when they are 0 again", () -> x.play(1));
    }

    private static void playEndsWithTheTurns() {
        due.about("until the given number is played or the turns are 0. Returns the number of steps that were played");
        due.same("one less", Due.box("box 4 2 0;tooth 5 3 30;").play(7), 7);
        due.same("just as many", Due.box("box 4 2 0;tooth 5 3 30;").play(8), 8);
        due.same("one more", Due.box("box 4 2 0;tooth 5 3 30;").play(9), 8);
        MusicBoxEditor x = Due.box("box 4 2 0;tooth 5 3 30;");
        x.play(7);
        due.same("turnsLeft", x.turnsLeft(), 1);
        due.same("position", x.position(), 3);
        due.same("the last step", x.play(300), 1);
        due.same("turnsLeft", x.turnsLeft(), 0);
        due.same("position", x.position(), 0);
        due.same("stepsPlayed", x.stepsPlayed(), 8);
        due.same("stepsLeft", x.stepsLeft(), 0);
    }

    private static void playToTheVeryEnd() {
        due.about("Plays steps, until the given number is played or the turns are 0");
        MusicBoxEditor x = Due.box("box 64 20 0;tooth 5 3 999;pin 0 0 63;");
        for (int i = 1; i <= 4; i++) {
            due.same("play(300)", x.play(300), 300);
        }
        due.same("play(300) with 80 left", x.play(300), 80);
        due.same("stepsPlayed", x.stepsPlayed(), 1280);
        due.same("noteCount", x.noteCount(), 20);
        due.same("position", x.position(), 0);
        due.badState("play(1)", () -> x.play(1));
    }

    private static void turnEndsWithTheRoll() {
        due.about("If it equals the number of steps then, it becomes 0, and the turns decrease by 1");
        MusicBoxEditor x = Due.box("box 5 3 0;tooth 5 3 30;");
        for (int i = 1; i <= 15; i++) {
            due.same("play(1)", x.play(1), 1);
            due.same("position behind " + i, x.position(), i % 5);
            due.same("turnsLeft behind " + i, x.turnsLeft(), 3 - i / 5);
        }
    }

    private static void pluckAheadOfTheEnd() {
        due.about("Each tooth for which the selected tune has a pin at the position is plucked");
        MusicBoxEditor x = Due.box("box 4 1 0;tooth 5 3 30;tooth 6 3 30;tooth 7 3 30;pin 0 0 0;pin 0 1 3;pin 1 2 0;");
        x.play(1);
        due.same("the pin of the first step", x.noteCount(), 1);
        x.play(2);
        due.same("the pin of the last step is not reached", x.noteCount(), 1);
        x.play(1);
        due.same("the pin of the last step of the last turn", x.noteCount(), 2);
        due.same("silence of the first", x.silence(0), 4);
        due.same("silence of the second", x.silence(1), 1);
        due.same("a pin of another tune", x.silence(2), 99);
        due.same("wear of another tune's", x.wear(2), 0);
    }

    private static void chordsArePlucked() {
        due.about("in ascending order");
        MusicBoxEditor x = Due.box("box 4 20 0;" + Due.times(12, "tooth 5 1 10;"));
        for (int tooth = 0; tooth < 12; tooth++) {
            x.addPin(0, tooth, 2);
        }
        x.play(2);
        due.same("noteCount", x.noteCount(), 0);
        x.play(1);
        due.same("twelve at once", x.noteCount(), 12);
        x.play(35);
        due.same("ten times twelve ahead of the break", x.noteCount(), 120 - 12);
        due.same("brokenTeeth", x.brokenTeeth(), 0);
        x.play(1);
        due.same("ten times twelve", x.noteCount(), 120);
        due.same("brokenTeeth", x.brokenTeeth(), 12);
        x.play(40);
        due.same("all broken", x.noteCount(), 120);
    }

    private static void brokenInTheMiddle() {
        due.about("and which is not broken");
        MusicBoxEditor x = Due.box("box 4 20 0;tooth 5 9 10;tooth 6 1 10;pin 0 0 0;pin 0 0 1;pin 0 0 2;pin 0 0 3;pin 0 1 3;");
        due.same("play", x.play(4), 4);
        due.same("a note and two squeaks break it", x.noteCount(), 2);
        due.same("squeakCount", x.squeakCount(), 2);
        due.same("wear", x.wear(0), 11);
        due.same("the silence of a broken tooth", x.silence(0), 2);
        due.same("the other tooth sounds", x.silence(1), 1);
        x.replaceTooth(0);
        x.play(1);
        due.same("a new one sounds", x.noteCount(), 3);
        due.same("contradictions", x.contradictions(), 0);
    }

    private static void stepIsCounted() {
        due.about("The step is counted as played");
        MusicBoxEditor x = Due.box("box 4 2 0;tooth 5 3 30;");
        due.same("at first", x.stepsPlayed(), 0);
        x.play(1);
        due.same("one", x.stepsPlayed(), 1);
        x.play(300);
        due.same("all", x.stepsPlayed(), 8);
        due.badState("one more", () -> x.play(1));
        due.same("no more", x.stepsPlayed(), 8);
        x.wind(20);
        x.play(80);
        due.same("80 more", x.stepsPlayed(), 88);
    }

    private static void changesOfNothing() {
        due.about("The methods that are marked as changes are recorded");
        MusicBoxEditor x = new MusicBoxEditor();
        x.setVane(40);
        due.same("setVane of the same angle", x.undoCount(), 1);
        x.setGap(0, 3);
        due.same("setGap of the same gap", x.undoCount(), 2);
        x.replaceTooth(0);
        due.same("replaceTooth of a new tooth", x.undoCount(), 3);
        due.same("state", Due.state(x), Due.state(new MusicBoxEditor()));
    }

    private static void lastOfTheCalls() {
        due.about("An object is used for at most 512 calls after it has been made");
        MusicBoxEditor x = Due.box("box 64 20 0;tooth 5 1 999;pin 0 0 0;pin 0 0 2;");
        int calls = 4; // three appends of the setup, load
        int played = 0;
        while (calls < 510) {
            played += x.play(2);
            calls++;
        }
        due.same("the steps of 506 calls", played, 1012);
        due.same("the 511th call", x.stepsPlayed(), 1012);
        due.same("the 512th call", x.noteCount(), 2 * (1012 / 64) + 2);
        MusicBoxEditor y = new MusicBoxEditor();
        for (int i = 1; i <= 510; i++) {
            y.setVane(i % 91);
        }
        due.same("undo as the 511th call", y.undo(), 7);
        due.same("vane as the 512th call", y.vane(), 509 % 91);
    }
}
