/** Promises 30 to 36: the statistics. */
public final class StatisticsTest {
    private static final Due due = new Due();

    public static void main(String[] args) {
        counts();
        meanPitch();
        density();
        contradictions();
        due.end();
    }

    private static void counts() {
        MusicBoxEditor x = new MusicBoxEditor();
        due.same("notes", x.noteCount(), 0);
        due.same("squeaks", x.squeakCount(), 0);
        due.same("played", x.stepsPlayed(), 0);
        due.same("broken", x.brokenTeeth(), 0);
        x.play(3);
        due.same("notes", x.noteCount(), 2);
        due.same("squeaks", x.squeakCount(), 0);
        due.same("played", x.stepsPlayed(), 3);
        x.play(1);
        due.same("squeaks", x.squeakCount(), 1);
        x.play(8);
        due.same("notes", x.noteCount(), 5);
        due.same("squeaks", x.squeakCount(), 2);
        due.same("played", x.stepsPlayed(), 12);
        due.same("broken", x.brokenTeeth(), 1);
        x.replaceTooth(1);
        due.same("broken after replacing", x.brokenTeeth(), 0);
        due.same("notes stay", x.noteCount(), 5);
        due.same("squeaks stay", x.squeakCount(), 2);
        x.play(300);
        due.same("played", x.stepsPlayed(), 40);
    }

    private static void meanPitch() {
        MusicBoxEditor x = new MusicBoxEditor();
        due.same("meanPitch(0)", x.meanPitch(0), 13.75);
        due.same("meanPitch(1)", x.meanPitch(1), 10.0);
        due.same("meanPitch(2)", x.meanPitch(2), 0.0);
        x.bend(0, -3);
        due.same("with a bend", x.meanPitch(1), 7.0);
        x.bend(2, 1);
        due.same("with bends", x.meanPitch(0), 53.0 / 4.0);
        x.removePin(0, 2, 4);
        due.same("35 / 3", x.meanPitch(0), 35.0 / 3.0);
        MusicBoxEditor y = Due.box("box 4 1 0;tooth 0 1 10;tooth 1 1 10;pin 0 0 0;pin 0 0 1;pin 0 1 0;pin 1 0 0;");
        y.bend(0, -2);
        due.same("negative", y.meanPitch(0), -1.0);
        due.same("negative", y.meanPitch(1), -2.0);
        y.bend(0, 2);
        due.same("zero", y.meanPitch(1), 0.0);
        due.noSuch("meanPitch(-1)", () -> y.meanPitch(-1));
        due.noSuch("meanPitch(3)", () -> y.meanPitch(3));
        due.noSuch("meanPitch(max)", () -> y.meanPitch(Integer.MAX_VALUE));
    }

    private static void density() {
        MusicBoxEditor x = new MusicBoxEditor();
        due.same("density(0)", x.density(0), 4.0f / 24.0f);
        due.same("density(1)", x.density(1), 2.0f / 24.0f);
        due.same("density(2)", x.density(2), 0.0f);
        x.addPin(2, 0, 0);
        due.same("density(2)", x.density(2), 1.0f / 24.0f);
        MusicBoxEditor y = Due.box("box 7 1 0;tooth 0 1 10;pin 0 0 0;pin 0 0 1;pin 0 0 3;");
        due.same("3 / 7", y.density(0), 3.0f / 7.0f);
        due.noSuch("density(-1)", () -> y.density(-1));
        due.noSuch("density(3)", () -> y.density(3));
        due.noSuch("density(min)", () -> y.density(Integer.MIN_VALUE));
    }

    private static void contradictions() {
        MusicBoxEditor x = new MusicBoxEditor();
        due.same("new", x.contradictions(), 0);
        x.play(12);
        due.same("played", x.contradictions(), 0);
        x.bend(0, 2);
        due.same("bent", x.contradictions(), 0);
        x.replaceTooth(1);
        x.replaceTooth(0);
        due.same("replaced", x.contradictions(), 0);
        x.play(20);
        due.same("played again", x.contradictions(), 0);
        x.undo();
        x.undo();
        due.same("undone", x.contradictions(), 0);
        x.save(0);
        x.bend(2, 1);
        x.restore(0);
        due.same("restored", x.contradictions(), 0);
    }
}
