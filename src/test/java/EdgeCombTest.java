/** The edges of promises 17 to 24 and 47 to 49 and of the comb, sentence by sentence. */
public final class EdgeCombTest {
    private static final Due due = new Due();

    private interface Tooth {
        void at(int tooth);
    }

    public static void main(String[] args) {
        toothCount();
        wrongTeeth();
        soundingPitch();
        bendOf();
        silenceAtFirst();
        silenceNeverOver99();
        silenceOfPluckedAndBroken();
        brokenAtItsStrength();
        brokenAtTheGreatestStrength();
        dampedAtItsGap();
        dampedAfter99Steps();
        nextSoundEach();
        nextSoundWithoutTurns();
        setGap();
        setGapAndSound();
        bendRange();
        bendOutOfItsRange();
        bendOfABrokenTooth();
        bendBreaks();
        replaceTooth();
        replaceToothKeeps();
        due.end();
    }

    /** One tooth and a pin on every of four steps. */
    private static MusicBoxEditor everyStep(int gap, int strength) {
        return Due.box("box 4 20 0;tooth 5 " + gap + " " + strength + ";pin 0 0 0;pin 0 0 1;pin 0 0 2;pin 0 0 3;");
    }

    private static void toothCount() {
        due.about("@return 1 to 12");
        due.same("least", Due.box("box 4 1 0;tooth 5 3 30;").toothCount(), 1);
        due.same("greatest", Due.box("box 4 1 0;" + Due.times(12, "tooth 5 3 30;")).toothCount(), 12);
    }

    private static void wrongTeeth() {
        due.about("IndexOutOfBoundsException if there is no such tooth");
        for (int teeth : new int[] {1, 3, 11, 12}) {
            MusicBoxEditor x = Due.box("box 4 1 0;" + Due.times(teeth, "tooth 5 3 30;"));
            wrongTooth("soundingPitch", teeth, x::soundingPitch);
            wrongTooth("bendOf", teeth, x::bendOf);
            wrongTooth("gap", teeth, x::gap);
            wrongTooth("wear", teeth, x::wear);
            wrongTooth("silence", teeth, x::silence);
            wrongTooth("isBroken", teeth, x::isBroken);
            wrongTooth("nextSound", teeth, x::nextSound);
            wrongTooth("stepsUntilBroken", teeth, x::stepsUntilBroken);
            wrongTooth("replaceTooth", teeth, x::replaceTooth);
            wrongTooth("setGap", teeth, tooth -> x.setGap(tooth, 1));
            wrongTooth("bend", teeth, tooth -> x.bend(tooth, 1));
            wrongTooth("writePins", teeth, tooth -> x.writePins(0, tooth));
            wrongTooth("isPin", teeth, tooth -> x.isPin(0, tooth, 0));
            wrongTooth("addPin", teeth, tooth -> x.addPin(0, tooth, 0));
            due.same("undoCount: the last tooth was replaced, set, bent and got a pin", x.undoCount(), 4);
        }
    }

    private static void wrongTooth(String name, int teeth, Tooth call) {
        call.at(teeth - 1);
        for (int tooth : new int[] {-1, teeth, 12, 63, Integer.MIN_VALUE, Integer.MAX_VALUE}) {
            due.noSuch(name + "(" + tooth + ") of " + teeth, () -> call.at(tooth));
        }
    }

    private static void soundingPitch() {
        due.about("Returns -3 to 63");
        MusicBoxEditor x = Due.box("box 4 1 0;tooth 0 3 30;tooth 60 3 30;");
        due.same("least pitch", x.soundingPitch(0), 0);
        due.same("greatest pitch", x.soundingPitch(1), 60);
        x.bend(0, -3);
        x.bend(1, 3);
        due.same("least", x.soundingPitch(0), -3);
        due.same("greatest", x.soundingPitch(1), 63);
        x.replaceTooth(0);
        due.same("a new one", x.soundingPitch(0), 0);
    }

    private static void bendOf() {
        due.about("a bend (-3 to 3, at first 0)");
        MusicBoxEditor x = new MusicBoxEditor();
        due.same("at first", x.bendOf(0), 0);
        x.bend(0, 3);
        due.same("greatest", x.bendOf(0), 3);
        x.bend(0, -3);
        x.bend(0, -3);
        due.same("least", x.bendOf(0), -3);
        due.same("another tooth", x.bendOf(1), 0);
    }

    private static void silenceAtFirst() {
        due.about("it is 99 at first");
        MusicBoxEditor x = new MusicBoxEditor();
        due.same("a new object", x.silence(0), 99);
        due.same("a new box", Due.box("box 4 1 0;tooth 5 3 30;").silence(0), 99);
        x.play(1);
        due.same("plucked", x.silence(0), 1);
        due.same("not plucked", x.silence(1), 99);
        due.same("wear at first", new MusicBoxEditor().wear(0), 0);
    }

    private static void silenceNeverOver99() {
        due.about("and never greater than 99");
        MusicBoxEditor x = Due.box("box 64 20 0;tooth 0 3 10;tooth 1 3 10;pin 0 0 0;");
        x.play(1);
        x.selectTune(1);
        x.play(97);
        due.same("98 steps", x.silence(0), 98);
        x.play(1);
        due.same("99 steps", x.silence(0), 99);
        x.play(1);
        due.same("100 steps", x.silence(0), 99);
        x.play(300);
        due.same("400 steps", x.silence(0), 99);
        due.same("never plucked", x.silence(1), 99);
    }

    private static void silenceOfPluckedAndBroken() {
        due.about("Its silence is 0 then. The silence of each tooth increases by 1");
        MusicBoxEditor x = everyStep(1, 10);
        for (int i = 1; i <= 10; i++) {
            x.play(1);
            due.same("plucked " + i, x.silence(0), 1);
        }
        due.same("broken", x.isBroken(0), true);
        x.play(1);
        due.same("a broken one is not plucked", x.silence(0), 2);
        due.same("noteCount", x.noteCount(), 10);
        due.same("wear", x.wear(0), 10);
        x.play(20);
        due.same("a broken one, 20 steps on", x.silence(0), 22);
        due.same("noteCount", x.noteCount(), 10);
        due.same("squeakCount", x.squeakCount(), 0);
    }

    private static void brokenAtItsStrength() {
        due.about("A tooth whose wear is at least its strength is broken");
        MusicBoxEditor x = everyStep(1, 10);
        x.play(9);
        due.same("wear 9 of 10", x.isBroken(0), false);
        due.same("brokenTeeth", x.brokenTeeth(), 0);
        x.play(1);
        due.same("wear 10 of 10", x.isBroken(0), true);
        due.same("brokenTeeth", x.brokenTeeth(), 1);
        MusicBoxEditor y = everyStep(9, 10);
        y.play(2);
        due.same("wear", y.wear(0), 6);
        due.same("wear 6 of 10", y.isBroken(0), false);
        y.play(1);
        due.same("wear over the strength", y.wear(0), 11);
        due.same("wear 11 of 10", y.isBroken(0), true);
        y.play(1);
        due.same("wear does not go on", y.wear(0), 11);
    }

    private static void brokenAtTheGreatestStrength() {
        due.about("a strength (10 to 999)");
        MusicBoxEditor x = Due.box("box 64 20 0;tooth 5 9 999;");
        for (int step = 0; step < 64; step++) {
            x.addPin(0, 0, step);
        }
        x.play(200); // one note and 199 squeaks
        due.same("wear", x.wear(0), 996);
        due.same("wear 996 of 999", x.isBroken(0), false);
        x.bend(0, 1);
        due.same("wear 999 of 999", x.wear(0), 999);
        due.same("broken", x.isBroken(0), true);
        x.undo();
        x.setGap(0, 1);
        x.play(2);
        due.same("wear 998 of 999", x.wear(0), 998);
        due.same("not broken", x.isBroken(0), false);
        x.play(1);
        due.same("wear 999 of 999", x.wear(0), 999);
        due.same("broken", x.isBroken(0), true);
    }

    private static void dampedAtItsGap() {
        due.about("A tooth is damped if its silence is at least its gap");
        for (int gap = 1; gap <= 9; gap++) {
            for (int silence = 1; silence <= 11; silence++) {
                MusicBoxEditor x = Due.box("box 12 1 0;tooth 5 " + gap + " 30;pin 0 0 0;pin 0 0 " + silence + ";");
                x.play(silence);
                String what = "silence " + silence + " at the gap " + gap;
                due.same(what, x.silence(0), silence);
                due.same(what, x.nextSound(0), silence >= gap ? 2 : 3);
                x.play(1);
                due.same(what, x.noteCount(), silence >= gap ? 2 : 1);
                due.same(what, x.squeakCount(), silence >= gap ? 0 : 1);
                due.same(what, x.wear(0), silence >= gap ? 2 : 6);
            }
        }
    }

    private static void dampedAfter99Steps() {
        due.about("The silence is the number of steps that were played since the tooth was plucked last");
        MusicBoxEditor x = Due.box("box 64 20 0;tooth 5 9 30;pin 0 0 0;pin 1 0 63;");
        x.play(64);
        due.same("64 steps", x.silence(0), 64);
        due.same("NOTE", x.nextSound(0), 2);
        x.play(1);
        x.selectTune(1);
        x.play(62);
        due.same("63 steps", x.silence(0), 63);
        due.same("NOTE", x.nextSound(0), 2);
        x.selectTune(2);
        x.play(300);
        x.selectTune(0);
        x.play(21);
        due.same("position", x.position(), 0);
        due.same("more than 99 steps", x.nextSound(0), 2);
    }

    private static void nextSoundEach() {
        due.about("Returns REST, BROKEN, NOTE or SQUEAK");
        MusicBoxEditor x = Due.box("box 4 2 0;tooth 0 3 10;tooth 1 2 10;pin 0 0 0;pin 0 0 2;pin 0 1 0;pin 0 1 2;pin 1 0 1;");
        due.same("NOTE", x.nextSound(0), 2);
        x.selectTune(1);
        due.same("no pin in the selected tune", x.nextSound(0), 0);
        x.selectTune(0);
        x.play(1);
        due.same("REST", x.nextSound(0), 0);
        x.play(1);
        due.same("SQUEAK", x.nextSound(0), 3);
        due.same("NOTE at the gap", x.nextSound(1), 2);
        x.bend(0, 3);
        x.bend(0, -3);
        due.same("wear 7 of 10", x.nextSound(0), 3);
        x.bend(0, 3);
        due.same("wear 10 of 10", x.nextSound(0), 1);
        x.play(1);
        due.same("broken without a pin", x.nextSound(0), 0);
        x.play(1);
        due.same("broken at the first step again", x.nextSound(0), 1);
        due.same("NOTE of the other tooth", x.nextSound(1), 2);
        x.removePin(0, 0, 0);
        due.same("without its pin", x.nextSound(0), 0);
    }

    private static void nextSoundWithoutTurns() {
        due.about("what the next step would do to a tooth if the spring had turns left");
        MusicBoxEditor x = Due.box("box 4 0 0;tooth 0 3 10;tooth 1 2 10;pin 0 0 0;");
        due.same("NOTE without turns", x.nextSound(0), 2);
        due.same("REST without turns", x.nextSound(1), 0);
        x.bend(0, 3);
        x.bend(0, -3);
        x.bend(0, 3);
        x.bend(0, -3);
        due.same("BROKEN without turns", x.nextSound(0), 1);
        MusicBoxEditor y = Due.box("box 4 1 0;tooth 0 3 10;pin 0 0 0;pin 0 0 3;");
        y.play(4);
        due.same("turnsLeft", y.turnsLeft(), 0);
        due.same("SQUEAK without turns", y.nextSound(0), 3);
    }

    private static void setGap() {
        due.about("gap: 1 to 9");
        MusicBoxEditor x = new MusicBoxEditor();
        due.same("setGap(2, 1)", x.setGap(2, 1), 4);
        due.same("gap", x.gap(2), 1);
        due.same("setGap(2, 9)", x.setGap(2, 9), 1);
        due.same("gap", x.gap(2), 9);
        due.same("setGap(2, 9) again", x.setGap(2, 9), 9);
        due.same("undoCount", x.undoCount(), 3);
        due.badArgument("setGap(2, 0)", () -> x.setGap(2, 0));
        due.badArgument("setGap(2, 10)", () -> x.setGap(2, 10));
        due.badArgument("setGap(2, -1)", () -> x.setGap(2, -1));
        due.badArgument("setGap(2, least int)", () -> x.setGap(2, Integer.MIN_VALUE));
        due.badArgument("setGap(2, greatest int)", () -> x.setGap(2, Integer.MAX_VALUE));
        due.about("If several exceptions apply, the one that is listed first is thrown");
        due.noSuch("setGap(3, 0)", () -> x.setGap(3, 0));
        due.noSuch("setGap(3, 10)", () -> x.setGap(3, 10));
        due.noSuch("setGap(-1, 0)", () -> x.setGap(-1, 0));
        due.same("gap", x.gap(2), 9);
        due.same("gap of another tooth", x.gap(1), 2);
        due.same("undoCount", x.undoCount(), 3);
    }

    private static void setGapAndSound() {
        due.about("Sets the gap of a tooth");
        MusicBoxEditor x = Due.box("box 8 2 0;tooth 0 3 10;pin 0 0 0;pin 0 0 3;");
        x.play(3);
        due.same("damped at a gap of 3", x.nextSound(0), 2);
        x.setGap(0, 4);
        due.same("not damped at a gap of 4", x.nextSound(0), 3);
        due.same("a close pin", x.closePins(0), 1);
        x.undo();
        due.same("damped again", x.nextSound(0), 2);
        due.same("no close pin", x.closePins(0), 0);
        due.same("silence stays", x.silence(0), 3);
    }

    private static void bendRange() {
        due.about("amount: what is added to the bend, -3 to 3, but not 0");
        for (int amount = -3; amount <= 3; amount++) {
            MusicBoxEditor x = new MusicBoxEditor();
            int by = amount;
            if (by == 0) {
                due.badArgument("bend(0, 0)", () -> x.bend(0, by));
                due.same("undoCount", x.undoCount(), 0);
            } else {
                due.same("bend(0, " + by + ")", x.bend(0, by), by);
                due.same("bendOf", x.bendOf(0), by);
                due.same("wear", x.wear(0), 3);
                due.same("contradictions", x.contradictions(), 0);
                due.same("undoCount", x.undoCount(), 1);
            }
        }
        MusicBoxEditor x = new MusicBoxEditor();
        due.badArgument("bend(0, 4)", () -> x.bend(0, 4));
        due.badArgument("bend(0, -4)", () -> x.bend(0, -4));
        due.badArgument("bend(0, least int)", () -> x.bend(0, Integer.MIN_VALUE));
        due.badArgument("bend(0, greatest int)", () -> x.bend(0, Integer.MAX_VALUE));
        due.about("If several exceptions apply, the one that is listed first is thrown");
        due.noSuch("bend(3, 0)", () -> x.bend(3, 0));
        due.noSuch("bend(3, 4)", () -> x.bend(3, 4));
        due.noSuch("bend(-1, -4)", () -> x.bend(-1, -4));
        due.same("wear", x.wear(0), 0);
        due.same("undoCount", x.undoCount(), 0);
    }

    private static void bendOutOfItsRange() {
        due.about("Throws IllegalStateException if the bend would be out of its range");
        for (int from = -3; from <= 3; from++) {
            for (int by = -3; by <= 3; by++) {
                MusicBoxEditor x = new MusicBoxEditor();
                if (from != 0) {
                    x.bend(0, from);
                }
                int amount = by;
                int bent = from + by;
                String what = "bend by " + by + " from " + from;
                if (by == 0) {
                    due.badArgument(what, () -> x.bend(0, amount));
                } else if (bent < -3 || bent > 3) {
                    due.badState(what, () -> x.bend(0, amount));
                    due.same("bendOf behind " + what, x.bendOf(0), from);
                    due.same("wear behind " + what, x.wear(0), 3);
                } else {
                    due.same(what, x.bend(0, amount), bent);
                    due.same("bendOf behind " + what, x.bendOf(0), bent);
                }
            }
        }
        due.about("If several exceptions apply, the one that is listed first is thrown");
        MusicBoxEditor y = new MusicBoxEditor();
        y.bend(0, 3);
        due.badArgument("bend by 4 from 3", () -> y.bend(0, 4));
        due.badArgument("bend by the greatest int from 3", () -> y.bend(0, Integer.MAX_VALUE));
    }

    private static void bendOfABrokenTooth() {
        due.about("Throws IllegalStateException if the tooth is broken");
        MusicBoxEditor x = everyStep(1, 10);
        x.play(9);
        due.same("wear 9 of 10", x.bend(0, 1), 1);
        due.same("wear", x.wear(0), 12);
        due.badState("bend(0, 1) of a broken tooth", () -> x.bend(0, 1));
        due.badState("bend(0, -1) of a broken tooth", () -> x.bend(0, -1));
        due.badState("bend(0, 3) of a broken tooth", () -> x.bend(0, 3));
        due.same("wear", x.wear(0), 12);
        due.same("bendOf", x.bendOf(0), 1);
        due.about("If several exceptions apply, the one that is listed first is thrown");
        due.badArgument("bend(0, 0) of a broken tooth", () -> x.bend(0, 0));
        due.badArgument("bend(0, 4) of a broken tooth", () -> x.bend(0, 4));
        due.noSuch("bend(1, 0)", () -> x.bend(1, 0));
        due.same("undoCount", x.undoCount(), 2);
        x.replaceTooth(0);
        due.same("a new one", x.bend(0, 1), 1);
        MusicBoxEditor y = everyStep(1, 10);
        y.play(10);
        due.badState("wear 10 of 10", () -> y.bend(0, 1));
    }

    private static void bendBreaks() {
        due.about("Bends a tooth, whose wear increases by 3");
        MusicBoxEditor x = Due.box("box 4 1 0;tooth 5 3 12;tooth 5 3 13;pin 0 0 0;");
        for (int i = 1; i <= 4; i++) {
            x.bend(0, i % 2 == 0 ? -2 : 2);
            x.bend(1, i % 2 == 0 ? -2 : 2);
            due.same("wear", x.wear(0), 3 * i);
            due.same("silence", x.silence(0), 99);
        }
        due.same("wear 12 of 12", x.isBroken(0), true);
        due.same("wear 12 of 13", x.isBroken(1), false);
        x.bend(1, 1);
        due.same("wear 15 of 13", x.isBroken(1), true);
        due.same("noteCount", x.noteCount(), 0);
        due.same("contradictions", x.contradictions(), 0);
    }

    private static void replaceTooth() {
        due.about("a new one with the bend 0, the wear 0 and the silence 99. Returns the wear before");
        MusicBoxEditor x = new MusicBoxEditor();
        due.same("a new one", x.replaceTooth(0), 0);
        due.same("is a change", x.undoCount(), 1);
        x.play(12);
        x.bend(0, -2);
        due.same("silence before", x.silence(0), 4);
        due.same("wear of two notes and a bend", x.replaceTooth(0), 5);
        due.same("wear", x.wear(0), 0);
        due.same("bendOf", x.bendOf(0), 0);
        due.same("silence", x.silence(0), 99);
        due.same("a broken one", x.replaceTooth(1), 12);
        due.same("isBroken", x.isBroken(1), false);
        due.same("brokenTeeth", x.brokenTeeth(), 0);
        due.same("the same again", x.replaceTooth(1), 0);
        due.same("contradictions", x.contradictions(), 0);
        due.same("noteCount", x.noteCount(), 5);
        due.same("squeakCount", x.squeakCount(), 2);
    }

    private static void replaceToothKeeps() {
        due.about("by a new one with the same pitch, gap and strength");
        MusicBoxEditor x = Due.box("box 4 20 0;tooth 5 3 12;tooth 7 1 30;pin 0 0 0;pin 1 0 2;");
        x.setGap(0, 9);
        x.bend(0, 3);
        x.replaceTooth(0);
        due.same("soundingPitch", x.soundingPitch(0), 5);
        due.same("gap", x.gap(0), 9);
        for (int i = 0; i < 3; i++) {
            x.bend(0, i % 2 == 0 ? 1 : -1);
        }
        due.same("wear 9 of 12", x.isBroken(0), false);
        x.bend(0, 1);
        due.same("wear 12 of 12", x.isBroken(0), true);
        due.same("its pins stay", x.chord(0, 0) + x.chord(1, 2), 2);
        due.same("the other tooth stays", x.soundingPitch(1), 7);
        due.same("the other tooth stays", x.gap(1), 1);
    }
}
