/** Promises 37 to 40: the forecasts. */
public final class ForecastTest {
    private static final Due due = new Due();

    public static void main(String[] args) {
        stepsLeft();
        stepsUntilBroken();
        brokenByTheLastStep();
        soundsIn();
        asPlayed();
        due.end();
    }

    private static void stepsLeft() {
        MusicBoxEditor x = new MusicBoxEditor();
        due.same("stepsLeft", x.stepsLeft(), 40);
        x.play(3);
        due.same("stepsLeft", x.stepsLeft(), 37);
        x.play(5);
        due.same("stepsLeft", x.stepsLeft(), 32);
        x.play(300);
        due.same("without turns", x.stepsLeft(), 0);
        x.wind(20);
        due.same("stepsLeft", x.stepsLeft(), 160);
        due.same("most", Due.box("box 64 20 0;tooth 0 1 10;").stepsLeft(), 1280);
        due.same("none", Due.box("box 64 0 0;tooth 0 1 10;").stepsLeft(), 0);
    }

    private static void stepsUntilBroken() {
        MusicBoxEditor x = new MusicBoxEditor();
        String before = Due.state(x);
        due.same("stepsUntilBroken(0)", x.stepsUntilBroken(0), -1);
        due.same("stepsUntilBroken(1)", x.stepsUntilBroken(1), 12);
        due.same("stepsUntilBroken(2)", x.stepsUntilBroken(2), -1);
        due.same("nothing has changed", Due.state(x), before);
        due.same("no change", x.undoCount(), 0);
        x.play(11);
        due.same("one more", x.stepsUntilBroken(1), 1);
        x.play(1);
        due.same("now", x.stepsUntilBroken(1), 0);
        x.selectTune(2);
        due.same("broken in any tune", x.stepsUntilBroken(1), 0);
        MusicBoxEditor y = Due.box("box 64 20 0;tooth 0 1 20;tooth 0 1 21;pin 0 0 63;pin 0 1 62;");
        due.same("in the last step of all", y.stepsUntilBroken(0), 1280);
        due.same("one pluck too few", y.stepsUntilBroken(1), -1);
        MusicBoxEditor z = Due.box("box 4 0 0;tooth 0 1 10;pin 0 0 0;");
        due.same("without turns", z.stepsUntilBroken(0), -1);
    }

    private static void brokenByTheLastStep() {
        MusicBoxEditor x = Due.box("box 4 10 0;tooth 0 1 10;pin 0 0 3;");
        due.same("the last step breaks it", x.stepsUntilBroken(0), 40);
        x.play(39);
        due.same("one step before", x.stepsUntilBroken(0), 1);
        due.same("not yet", x.isBroken(0), false);
        x.play(1);
        due.same("broken", x.isBroken(0), true);
        due.same("no turns", x.turnsLeft(), 0);
        due.same("broken without turns", x.stepsUntilBroken(0), 0);
    }

    private static void soundsIn() {
        MusicBoxEditor x = new MusicBoxEditor();
        String before = Due.state(x);
        due.same("notesIn(0)", x.notesIn(0), 0);
        due.same("squeaksIn(0)", x.squeaksIn(0), 0);
        due.same("notesIn(1)", x.notesIn(1), 1);
        due.same("notesIn(3)", x.notesIn(3), 2);
        due.same("squeaksIn(3)", x.squeaksIn(3), 0);
        due.same("squeaksIn(4)", x.squeaksIn(4), 1);
        due.same("notesIn(40)", x.notesIn(40), 12);
        due.same("squeaksIn(40)", x.squeaksIn(40), 2);
        due.same("no more than can be played", x.notesIn(300), 12);
        due.same("no more than can be played", x.squeaksIn(300), 2);
        due.same("nothing has changed", Due.state(x), before);
        due.same("no change", x.undoCount(), 0);
        x.play(4);
        due.same("only the next steps count", x.notesIn(1), 1);
        due.same("only the next steps count", x.squeaksIn(8), 1);
        x.play(300);
        due.same("without turns", x.notesIn(300), 0);
        due.same("without turns", x.squeaksIn(300), 0);
        due.badArgument("notesIn(-1)", () -> x.notesIn(-1));
        due.badArgument("notesIn(301)", () -> x.notesIn(301));
        due.badArgument("notesIn(max)", () -> x.notesIn(Integer.MAX_VALUE));
        due.badArgument("squeaksIn(-1)", () -> x.squeaksIn(-1));
        due.badArgument("squeaksIn(301)", () -> x.squeaksIn(301));
        due.badArgument("squeaksIn(min)", () -> x.squeaksIn(Integer.MIN_VALUE));
    }

    private static void asPlayed() {
        for (int steps = 1; steps <= 45; steps++) {
            MusicBoxEditor x = new MusicBoxEditor();
            x.addPin(0, 2, 5);
            x.play(3);
            int notes = x.notesIn(steps);
            int squeaks = x.squeaksIn(steps);
            int notesBefore = x.noteCount();
            int squeaksBefore = x.squeakCount();
            x.play(steps);
            due.same("notes in " + steps, notes, x.noteCount() - notesBefore);
            due.same("squeaks in " + steps, squeaks, x.squeakCount() - squeaksBefore);
        }
    }
}
