/** The edges of promises 37 to 40, sentence by sentence. */
public final class EdgeForecastTest {
    private static final Due due = new Due();

    public static void main(String[] args) {
        stepsLeft();
        stepsLeftWithoutTurns();
        brokenNow();
        neverBroken();
        brokenByTheLastStep();
        oneStepTooFew();
        leastNumberOfSteps();
        soundsInRange();
        soundsInNone();
        soundsInThreeHundred();
        soundsInAllThatCanBePlayed();
        breakInTheMiddle();
        asIfPlayed();
        forecastsChangeNothing();
        due.end();
    }

    private static void stepsLeft() {
        due.about("the turns times the number of steps of the roll, minus the position");
        MusicBoxEditor x = Due.box("box 4 2 0;tooth 5 3 30;");
        for (int played = 0; played < 8; played++) {
            due.same("stepsLeft", x.stepsLeft(), 8 - played);
            x.play(1);
        }
        due.same("most", Due.box("box 64 20 0;tooth 5 3 30;").stepsLeft(), 1280);
        MusicBoxEditor y = Due.box("box 64 20 0;tooth 5 3 30;");
        y.play(63);
        due.same("at the last step", y.stepsLeft(), 1217);
        due.same("least", Due.box("box 4 1 0;tooth 5 3 30;").stepsLeft(), 4);
        MusicBoxEditor z = Due.box("box 4 1 0;tooth 5 3 30;");
        z.play(3);
        z.wind(19);
        due.same("wound up at the last step", z.stepsLeft(), 77);
        due.same("can be played", z.play(300), 77);
    }

    private static void stepsLeftWithoutTurns() {
        due.about("0 if the turns are 0");
        MusicBoxEditor x = Due.box("box 4 0 0;tooth 5 3 30;");
        due.same("stepsLeft", x.stepsLeft(), 0);
        x.wind(1);
        due.same("stepsLeft", x.stepsLeft(), 4);
        x.play(4);
        due.same("stepsLeft", x.stepsLeft(), 0);
    }

    private static void brokenNow() {
        due.about("0 if it is broken now");
        MusicBoxEditor x = Due.box("box 4 5 0;tooth 5 3 10;tooth 5 3 10;pin 0 0 0;");
        for (int i = 0; i < 3; i++) {
            x.bend(0, i % 2 == 0 ? 1 : -1);
        }
        due.same("wear 9 of 10", x.stepsUntilBroken(0), 1);
        x.bend(0, -1);
        due.same("wear 12 of 10", x.stepsUntilBroken(0), 0);
        due.same("the other tooth", x.stepsUntilBroken(1), -1);
        x.play(300);
        due.same("broken without turns", x.stepsUntilBroken(0), 0);
        x.replaceTooth(0);
        due.same("a new one without turns", x.stepsUntilBroken(0), -1);
    }

    private static void neverBroken() {
        due.about("NONE if it will not be broken before the spring has no turns left");
        due.same("without turns", Due.box("box 4 0 0;tooth 5 3 10;pin 0 0 0;").stepsUntilBroken(0), -1);
        due.same("without pins", Due.box("box 4 20 0;tooth 5 3 10;").stepsUntilBroken(0), -1);
        due.same("with pins in another tune", Due.box("box 4 20 0;tooth 5 3 10;pin 1 0 0;").stepsUntilBroken(0), -1);
        due.same("with too few turns", Due.box("box 4 9 0;tooth 5 3 10;pin 0 0 0;").stepsUntilBroken(0), -1);
        due.same("with turns enough", Due.box("box 4 10 0;tooth 5 3 10;pin 0 0 0;").stepsUntilBroken(0), 37);
        MusicBoxEditor x = Due.box("box 4 9 0;tooth 5 3 10;pin 0 0 0;");
        x.wind(1);
        due.same("with a turn more", x.stepsUntilBroken(0), 37);
        x.play(300);
        due.same("as it came", x.isBroken(0), true);
        due.noSuch("stepsUntilBroken(1)", () -> x.stepsUntilBroken(1));
        due.noSuch("stepsUntilBroken(-1)", () -> x.stepsUntilBroken(-1));
    }

    private static void brokenByTheLastStep() {
        due.about("before the spring has no turns left");
        MusicBoxEditor x = Due.box("box 4 10 0;tooth 5 3 10;pin 0 0 3;");
        due.same("by the last step of all", x.stepsUntilBroken(0), 40);
        x.play(39);
        due.same("one step ahead of it", x.stepsUntilBroken(0), 1);
        due.same("not yet", x.isBroken(0), false);
        x.play(1);
        due.same("now", x.stepsUntilBroken(0), 0);
        due.same("turnsLeft", x.turnsLeft(), 0);
        due.same("by the last of 1280 steps", Due.box("box 64 20 0;tooth 5 3 20;pin 0 0 63;").stepsUntilBroken(0), 1280);
    }

    private static void oneStepTooFew() {
        due.about("NONE if it will not be broken before the spring has no turns left");
        due.same("one note too few", Due.box("box 4 10 0;tooth 5 3 11;pin 0 0 3;").stepsUntilBroken(0), -1);
        due.same("one note too few of 20", Due.box("box 64 20 0;tooth 5 3 21;pin 0 0 63;").stepsUntilBroken(0), -1);
        MusicBoxEditor x = Due.box("box 4 10 0;tooth 5 3 11;pin 0 0 3;");
        due.same("play", x.play(300), 40);
        due.same("wear", x.wear(0), 10);
        due.same("isBroken", x.isBroken(0), false);
    }

    private static void leastNumberOfSteps() {
        due.about("Returns the least number of steps");
        String box = "box 4 20 0;tooth 5 9 10;tooth 5 1 12;pin 0 0 0;pin 0 0 1;pin 0 0 2;pin 0 1 1;";
        MusicBoxEditor x = Due.box(box);
        due.same("a note and two squeaks", x.stepsUntilBroken(0), 3);
        due.same("twelve notes", x.stepsUntilBroken(1), 46);
        for (int tooth = 0; tooth < 2; tooth++) {
            MusicBoxEditor y = Due.box(box);
            int steps = y.stepsUntilBroken(tooth);
            for (int left = steps; left > 0; left--) {
                due.same("stepsUntilBroken", y.stepsUntilBroken(tooth), left);
                due.same("isBroken", y.isBroken(tooth), false);
                y.play(1);
            }
            due.same("stepsUntilBroken", y.stepsUntilBroken(tooth), 0);
            due.same("isBroken", y.isBroken(tooth), true);
        }
    }

    private static void soundsInRange() {
        due.about("steps: 0 to 300");
        MusicBoxEditor x = Due.box("box 64 20 0;tooth 5 3 999;pin 0 0 0;pin 0 0 1;");
        due.badArgument("notesIn(-1)", () -> x.notesIn(-1));
        due.badArgument("notesIn(301)", () -> x.notesIn(301));
        due.badArgument("notesIn(least int)", () -> x.notesIn(Integer.MIN_VALUE));
        due.badArgument("notesIn(greatest int)", () -> x.notesIn(Integer.MAX_VALUE));
        due.badArgument("squeaksIn(-1)", () -> x.squeaksIn(-1));
        due.badArgument("squeaksIn(301)", () -> x.squeaksIn(301));
        due.badArgument("squeaksIn(least int)", () -> x.squeaksIn(Integer.MIN_VALUE));
        due.badArgument("squeaksIn(greatest int)", () -> x.squeaksIn(Integer.MAX_VALUE));
        due.same("notesIn(0)", x.notesIn(0), 0);
        due.same("notesIn(300)", x.notesIn(300), 5);
        due.same("squeaksIn(0)", x.squeaksIn(0), 0);
        due.same("squeaksIn(300)", x.squeaksIn(300), 5);
        MusicBoxEditor y = Due.box("box 4 0 0;tooth 5 3 999;pin 0 0 0;");
        due.badArgument("notesIn(301) without turns", () -> y.notesIn(301));
        due.badArgument("squeaksIn(-1) without turns", () -> y.squeaksIn(-1));
        due.same("notesIn(300) without turns", y.notesIn(300), 0);
        due.same("squeaksIn(300) without turns", y.squeaksIn(300), 0);
        due.same("notesIn(0) without turns", y.notesIn(0), 0);
        due.same("squeaksIn(0) without turns", y.squeaksIn(0), 0);
    }

    private static void soundsInNone() {
        due.about("Returns the number of notes / squeaks in the next steps");
        MusicBoxEditor x = Due.box("box 4 5 0;tooth 5 3 999;pin 0 0 0;pin 0 0 1;");
        due.same("notesIn(0) ahead of a note", x.notesIn(0), 0);
        due.same("notesIn(1) ahead of a note", x.notesIn(1), 1);
        due.same("squeaksIn(1) ahead of a note", x.squeaksIn(1), 0);
        due.same("squeaksIn(2)", x.squeaksIn(2), 1);
        x.play(1);
        due.same("squeaksIn(0) ahead of a squeak", x.squeaksIn(0), 0);
        due.same("squeaksIn(1) ahead of a squeak", x.squeaksIn(1), 1);
        due.same("notesIn(1) ahead of a squeak", x.notesIn(1), 0);
        due.same("what was played does not count", x.notesIn(3), 0);
        due.same("the note of the next turn", x.notesIn(4), 1);
    }

    private static void soundsInThreeHundred() {
        due.about("Returns the number of notes in these steps");
        MusicBoxEditor x = Due.box("box 64 20 0;tooth 5 1 999;");
        for (int step = 0; step < 64; step++) {
            x.addPin(0, 0, step);
        }
        due.same("notesIn(1)", x.notesIn(1), 1);
        due.same("notesIn(299)", x.notesIn(299), 299);
        due.same("notesIn(300)", x.notesIn(300), 300);
        x.setGap(0, 9);
        due.same("notesIn(100)", x.notesIn(100), 1);
        due.same("squeaksIn(100)", x.squeaksIn(100), 99);
        due.same("squeaksIn(200)", x.squeaksIn(200), 199);
        due.same("squeaksIn(300) until it breaks", x.squeaksIn(300), 200);
    }

    private static void soundsInAllThatCanBePlayed() {
        due.about("or in all steps that can be played if these are fewer");
        MusicBoxEditor x = Due.box("box 4 3 0;tooth 5 1 999;tooth 5 9 999;pin 0 0 3;pin 1 1 3;");
        due.same("notesIn(11), all but the last", x.notesIn(11), 2);
        due.same("notesIn(12), all", x.notesIn(12), 3);
        due.same("notesIn(13)", x.notesIn(13), 3);
        due.same("notesIn(300)", x.notesIn(300), 3);
        x.selectTune(1);
        due.same("squeaksIn(11), all but the last", x.squeaksIn(11), 1);
        due.same("squeaksIn(12), all", x.squeaksIn(12), 2);
        due.same("squeaksIn(13)", x.squeaksIn(13), 2);
        due.same("squeaksIn(300)", x.squeaksIn(300), 2);
        x.play(11);
        due.same("squeaksIn(1) at the last step", x.squeaksIn(1), 1);
        due.same("squeaksIn(300) at the last step", x.squeaksIn(300), 1);
        due.same("notesIn(300) at the last step", x.notesIn(300), 0);
        x.selectTune(0);
        due.same("notesIn(1) at the last step", x.notesIn(1), 1);
        due.same("notesIn(300) at the last step", x.notesIn(300), 1);
        x.play(1);
        due.same("notesIn(300) without turns", x.notesIn(300), 0);
        due.same("squeaksIn(300) without turns", x.squeaksIn(300), 0);
    }

    private static void breakInTheMiddle() {
        due.about("They tell what happens if the box is only played");
        MusicBoxEditor x = Due.box("box 4 20 0;tooth 5 3 11;pin 0 0 0;pin 0 0 1;pin 1 0 2;");
        due.same("a note, a squeak, a squeak", x.squeaksIn(4) * 10 + x.notesIn(4), 11);
        due.same("the second turn", x.squeaksIn(8) * 10 + x.notesIn(8), 22);
        due.same("broken from there on", x.squeaksIn(80) * 10 + x.notesIn(80), 22);
        due.same("stepsUntilBroken", x.stepsUntilBroken(0), 6);
        x.selectTune(1);
        due.same("in another tune", x.notesIn(80), 11);
        due.same("in another tune", x.squeaksIn(80), 0);
    }

    private static void asIfPlayed() {
        due.about("They tell what happens if the box is only played");
        for (int steps = 1; steps <= 300; steps++) {
            MusicBoxEditor x = Due.box("box 7 20 0;tooth 5 3 60;tooth 6 2 30;tooth 7 9 999;pin 0 0 0;pin 0 0 3;pin 0 1 4;"
                    + "pin 0 1 5;pin 0 2 6;pin 0 2 1;");
            x.play(5);
            int notes = x.notesIn(steps);
            int squeaks = x.squeaksIn(steps);
            int before = x.noteCount() * 1000 + x.squeakCount();
            int left = x.stepsLeft();
            due.same("steps that can be played", x.play(steps), Math.min(steps, left));
            due.same("sounds in " + steps, x.noteCount() * 1000 + x.squeakCount() - before, notes * 1000 + squeaks);
        }
    }

    private static MusicBoxEditor used() {
        MusicBoxEditor x = Due.box("box 4 5 40;tooth 10 3 30;tooth 14 2 12;pin 0 0 0;pin 0 1 1;pin 0 1 2;pin 1 0 1;");
        x.play(5);
        x.save(1);
        Due.script(x, "bend 0 up 1;zzz");
        x.bend(1, 2);
        x.writeComb();
        Due.write(x, "vane 77;");
        return x;
    }

    private static void forecastsChangeNothing() {
        due.about("Forecasts do not change anything");
        String untouched = Due.world(used());
        MusicBoxEditor a = used();
        a.stepsLeft();
        due.same("behind stepsLeft", Due.world(a), untouched);
        MusicBoxEditor b = used();
        b.stepsUntilBroken(0);
        b.stepsUntilBroken(1);
        due.same("behind stepsUntilBroken", Due.world(b), untouched);
        MusicBoxEditor c = used();
        c.notesIn(300);
        c.notesIn(0);
        due.same("behind notesIn", Due.world(c), untouched);
        MusicBoxEditor d = used();
        d.squeaksIn(300);
        d.squeaksIn(1);
        due.same("behind squeaksIn", Due.world(d), untouched);
        MusicBoxEditor e = used();
        due.same("a forecast and the same again", e.notesIn(9) == e.notesIn(9), true);
        due.same("between two others", e.squeaksIn(9) - e.squeaksIn(0) - e.squeaksIn(9), 0);
    }
}
