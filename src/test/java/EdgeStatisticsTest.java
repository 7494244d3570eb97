/** The edges of promises 30 to 36, sentence by sentence. */
public final class EdgeStatisticsTest {
    private static final Due due = new Due();

    public static void main(String[] args) {
        countsAtFirst();
        plucksThatSounded();
        brokenTeeth();
        meanPitchOfNoPins();
        meanPitchAtTheEnds();
        meanPitchIsExact();
        density();
        contradictions();
        due.end();
    }

    private static void countsAtFirst() {
        due.about("all statistics are 0");
        MusicBoxEditor x = new MusicBoxEditor();
        due.same("noteCount", x.noteCount(), 0);
        due.same("squeakCount", x.squeakCount(), 0);
        due.same("stepsPlayed", x.stepsPlayed(), 0);
        due.same("brokenTeeth", x.brokenTeeth(), 0);
        due.same("contradictions", x.contradictions(), 0);
    }

    private static void plucksThatSounded() {
        due.about("the number of plucks that sounded as notes / that squeaked");
        MusicBoxEditor x = Due.box("box 4 2 0;tooth 5 3 12;pin 0 0 0;pin 0 0 2;pin 0 0 3;");
        x.play(1);
        due.same("a note", x.noteCount() * 100 + x.squeakCount(), 100);
        x.play(1);
        due.same("a rest", x.noteCount() * 100 + x.squeakCount(), 100);
        x.play(1);
        due.same("a squeak", x.noteCount() * 100 + x.squeakCount(), 101);
        x.play(1);
        due.same("a squeak", x.noteCount() * 100 + x.squeakCount(), 102);
        x.play(1);
        due.same("wear 11 of 12, a squeak", x.noteCount() * 100 + x.squeakCount(), 103);
        due.same("wear", x.wear(0), 16);
        x.play(3);
        due.same("broken", x.noteCount() * 100 + x.squeakCount(), 103);
        x.replaceTooth(0);
        due.same("counts stay when a tooth is replaced", x.noteCount() * 100 + x.squeakCount(), 103);
        x.bend(0, 1);
        x.setGap(0, 1);
        due.same("no pluck", x.noteCount() * 100 + x.squeakCount(), 103);
    }

    private static void brokenTeeth() {
        due.about("Returns the number of broken teeth");
        MusicBoxEditor x = Due.box("box 4 20 0;" + Due.times(12, "tooth 5 3 10;"));
        for (int tooth = 0; tooth < 12; tooth++) {
            for (int i = 0; i < 4; i++) {
                due.same("brokenTeeth ahead of bend " + i + " of tooth " + tooth, x.brokenTeeth(), tooth);
                x.bend(tooth, i % 2 == 0 ? 1 : -1);
            }
        }
        due.same("all twelve", x.brokenTeeth(), 12);
        due.same("writeComb", x.writeComb(), 23);
        x.replaceTooth(11);
        due.same("eleven", x.brokenTeeth(), 11);
    }

    private static void meanPitchOfNoPins() {
        due.about("0.0 if the tune has no pins");
        MusicBoxEditor x = new MusicBoxEditor();
        due.same("meanPitch(2)", x.meanPitch(2), 0.0);
        x.addPin(2, 0, 0);
        due.same("one pin", x.meanPitch(2), 10.0);
        x.removePin(2, 0, 0);
        due.same("none again", x.meanPitch(2), 0.0);
        due.about("if there is no such tune");
        due.noSuch("meanPitch(3)", () -> x.meanPitch(3));
        due.noSuch("meanPitch(-1)", () -> x.meanPitch(-1));
        due.noSuch("meanPitch(least int)", () -> x.meanPitch(Integer.MIN_VALUE));
        due.noSuch("meanPitch(greatest int)", () -> x.meanPitch(Integer.MAX_VALUE));
    }

    private static void meanPitchAtTheEnds() {
        due.about("the sum of the sounding pitches of the teeth of all pins divided by the number of pins");
        MusicBoxEditor x = Due.box("box 4 2 0;tooth 0 3 30;tooth 60 3 30;pin 0 0 0;pin 1 1 0;pin 2 0 0;pin 2 1 0;pin 2 0 1;");
        due.same("pitch 0", x.meanPitch(0), 0.0);
        due.same("pitch 60", x.meanPitch(1), 60.0);
        due.same("pitches 0, 0 and 60", x.meanPitch(2), 20.0);
        x.bend(0, -3);
        x.bend(1, 3);
        due.same("pitch -3", x.meanPitch(0), -3.0);
        due.same("pitch 63", x.meanPitch(1), 63.0);
        due.same("pitches -3, -3 and 63", x.meanPitch(2), 19.0);
        due.same("a sum of 0", Due.box("box 4 2 0;tooth 0 3 30;pin 0 0 0;pin 0 0 1;").meanPitch(0), 0.0);
    }

    private static void meanPitchIsExact() {
        due.about("both converted to double");
        MusicBoxEditor x = Due.box("box 8 2 0;tooth 1 3 30;tooth 0 3 30;pin 0 0 0;pin 0 1 0;pin 0 1 1;");
        due.same("1 / 3", x.meanPitch(0), 1.0 / 3.0);
        x.bend(0, -3);
        due.same("-2 / 3", x.meanPitch(0), -2.0 / 3.0);
        x.addPin(0, 0, 1);
        x.addPin(0, 1, 2);
        x.addPin(0, 1, 3);
        x.addPin(0, 1, 4);
        due.same("-4 / 7", x.meanPitch(0), -4.0 / 7.0);
        x.bend(0, 3);
        x.bend(0, 2);
        due.same("6 / 7", x.meanPitch(0), 6.0 / 7.0);
    }

    private static void density() {
        due.about("the number of pins divided by the number of steps times the number of teeth, both converted to float");
        MusicBoxEditor x = Due.box("box 4 1 0;tooth 5 3 30;");
        due.same("no pins", x.density(0), 0.0f);
        x.addPin(0, 0, 0);
        due.same("1 of 4", x.density(0), 0.25f);
        x.addPin(0, 0, 1);
        x.addPin(0, 0, 2);
        due.same("3 of 4", x.density(0), 0.75f);
        x.addPin(0, 0, 3);
        due.same("4 of 4", x.density(0), 1.0f);
        due.same("another tune", x.density(1), 0.0f);
        MusicBoxEditor y = Due.box("box 64 1 0;" + Due.times(12, "tooth 5 3 30;") + "pin 1 0 0;");
        due.same("1 of 768", y.density(1), 1.0f / 768.0f);
        y.addPin(1, 11, 63);
        y.addPin(1, 11, 0);
        y.addPin(1, 5, 63);
        y.addPin(1, 5, 62);
        due.same("5 of 768", y.density(1), 5.0f / 768.0f);
        due.same("0 of 768", y.density(2), 0.0f);
        due.noSuch("density(3)", () -> y.density(3));
        due.noSuch("density(-1)", () -> y.density(-1));
        due.noSuch("density(least int)", () -> y.density(Integer.MIN_VALUE));
        due.noSuch("density(greatest int)", () -> y.density(Integer.MAX_VALUE));
    }

    private static void contradictions() {
        due.about("The result is always 0");
        MusicBoxEditor x = Due.box("box 4 20 0;tooth 5 3 12;tooth 6 9 999;pin 0 0 0;pin 0 0 1;pin 0 1 0;pin 0 1 1;");
        for (int i = 0; i < 20; i++) {
            x.play(3);
            due.same("contradictions behind play", x.contradictions(), 0);
            if (x.isBroken(0)) {
                due.badState("bend of a broken tooth", () -> x.bend(0, 1));
                x.replaceTooth(0);
            } else {
                x.bend(0, x.bendOf(0) > 0 ? -1 : 1);
            }
            due.same("contradictions behind a change of the comb", x.contradictions(), 0);
        }
        x.save(0);
        x.undo();
        due.same("contradictions behind undo", x.contradictions(), 0);
        x.replaceTooth(1);
        due.same("contradictions behind replaceTooth", x.contradictions(), 0);
        x.restore(0);
        due.same("contradictions behind restore", x.contradictions(), 0);
        x.play(300);
        due.same("contradictions behind all turns", x.contradictions(), 0);
    }
}
