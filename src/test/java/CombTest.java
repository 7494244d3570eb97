/** Promises 17 to 24 and 47 to 49: the comb and its changes. */
public final class CombTest {
    private static final Due due = new Due();

    private interface Tooth {
        void at(int tooth);
    }

    public static void main(String[] args) {
        plainAnswers();
        silence();
        nextSound();
        breaking();
        setGap();
        bend();
        replaceTooth();
        wrongTeeth();
        due.end();
    }

    private static void plainAnswers() {
        MusicBoxEditor x = Due.box("box 4 2 0;tooth 0 9 10;tooth 60 1 999;");
        due.same("toothCount", x.toothCount(), 2);
        due.same("pitch 0", x.soundingPitch(0), 0);
        due.same("pitch 1", x.soundingPitch(1), 60);
        due.same("gap 0", x.gap(0), 9);
        due.same("gap 1", x.gap(1), 1);
        due.same("bend 0", x.bendOf(0), 0);
        due.same("wear 0", x.wear(0), 0);
        due.same("silence 0", x.silence(0), 99);
        due.same("broken 0", x.isBroken(0), false);
        x.bend(0, -3);
        x.bend(1, 3);
        due.same("least pitch", x.soundingPitch(0), -3);
        due.same("greatest pitch", x.soundingPitch(1), 63);
        due.same("bend 0", x.bendOf(0), -3);
        due.same("bend 1", x.bendOf(1), 3);
    }

    private static void silence() {
        MusicBoxEditor x = Due.box("box 64 20 0;tooth 0 3 10;tooth 1 3 10;pin 0 0 0;pin 0 0 5;");
        x.play(1);
        due.same("behind the pluck", x.silence(0), 1);
        due.same("never over 99", x.silence(1), 99);
        x.play(4);
        due.same("five steps", x.silence(0), 5);
        x.play(1);
        due.same("plucked again", x.silence(0), 1);
        x.selectTune(1);
        x.play(97);
        due.same("98 steps", x.silence(0), 98);
        x.play(1);
        due.same("99 steps", x.silence(0), 99);
        x.play(1);
        due.same("100 steps", x.silence(0), 99);
    }

    private static void nextSound() {
        MusicBoxEditor x = Due.box("box 4 1 0;tooth 0 3 10;tooth 1 2 10;tooth 2 1 10;"
                + "pin 0 0 0;pin 0 0 2;pin 0 1 0;pin 0 1 2;pin 0 2 0;pin 0 2 1;pin 1 2 3;");
        due.same("NOTE", x.nextSound(0), 2);
        x.play(1);
        due.same("REST", x.nextSound(0), 0);
        due.same("a gap of 1 is damped at once", x.nextSound(2), 2);
        x.play(1);
        due.same("SQUEAK", x.nextSound(0), 3);
        due.same("damped at the gap", x.nextSound(1), 2);
        due.same("REST", x.nextSound(2), 0);
        due.same("no change", x.undoCount(), 2);
        x.play(300);
        due.same("no turns", x.turnsLeft(), 0);
        due.same("as if there were turns", x.nextSound(0), 3);
        x.setGap(0, 1);
        due.same("gap 1", x.nextSound(0), 2);
        x.setGap(0, 3);
        x.bend(0, 1);
        due.same("wear 6 and 3", x.wear(0), 9);
        due.same("not broken yet", x.nextSound(0), 3);
        x.bend(0, 1);
        due.same("BROKEN", x.nextSound(0), 1);
        x.selectTune(1);
        due.same("no pin of a broken tooth", x.nextSound(0), 0);
        x.selectTune(0);
        x.replaceTooth(0);
        due.same("mended", x.nextSound(0), 2);
    }

    private static void breaking() {
        MusicBoxEditor x = Due.box("box 4 20 0;tooth 0 2 11;tooth 1 1 10;pin 0 0 0;pin 0 0 1;pin 0 0 2;pin 0 1 0;");
        x.play(1);
        due.same("wear of a note", x.wear(0), 1);
        x.play(1);
        due.same("wear of a squeak", x.wear(0), 6);
        due.same("not broken", x.isBroken(0), false);
        x.play(1);
        due.same("wear at the strength", x.wear(0), 11);
        due.same("broken", x.isBroken(0), true);
        due.same("silence", x.silence(0), 1);
        x.play(2);
        due.same("a broken tooth is not plucked", x.wear(0), 11);
        due.same("silence goes on", x.silence(0), 3);
        due.same("notes", x.noteCount(), 3);
        due.same("squeaks", x.squeakCount(), 2);
        x.play(300);
        due.same("a tooth of one note a turn", x.wear(1), 10);
        due.same("is broken", x.isBroken(1), true);
        due.same("broken teeth", x.brokenTeeth(), 2);
        due.same("notes", x.noteCount(), 11);
    }

    private static void setGap() {
        MusicBoxEditor x = new MusicBoxEditor();
        due.same("setGap(0, 9)", x.setGap(0, 9), 3);
        due.same("setGap(0, 1)", x.setGap(0, 1), 9);
        due.same("gap", x.gap(0), 1);
        due.same("others stay", x.gap(1), 2);
        due.same("setGap(0, 1) again", x.setGap(0, 1), 1);
        due.same("changes", x.undoCount(), 3);
        due.badArgument("setGap(0, 0)", () -> x.setGap(0, 0));
        due.badArgument("setGap(0, 10)", () -> x.setGap(0, 10));
        due.badArgument("setGap(0, min)", () -> x.setGap(0, Integer.MIN_VALUE));
        due.noSuch("setGap(3, 10)", () -> x.setGap(3, 10));
        due.noSuch("setGap(-1, 1)", () -> x.setGap(-1, 1));
        due.same("gap", x.gap(0), 1);
        due.same("changes", x.undoCount(), 3);
    }

    private static void bend() {
        MusicBoxEditor x = new MusicBoxEditor();
        due.same("bend(2, 3)", x.bend(2, 3), 3);
        due.same("wear", x.wear(2), 3);
        due.same("pitch", x.soundingPitch(2), 20);
        due.badState("over 3", () -> x.bend(2, 1));
        due.same("bend(2, -3)", x.bend(2, -3), 0);
        due.same("bend(2, -3)", x.bend(2, -3), -3);
        due.badState("under -3", () -> x.bend(2, -1));
        due.badState("under -3", () -> x.bend(2, -3));
        due.same("wear", x.wear(2), 9);
        due.same("silence stays", x.silence(2), 99);
        due.same("changes", x.undoCount(), 3);
        due.badArgument("bend(2, 0)", () -> x.bend(2, 0));
        due.badArgument("bend(2, 4)", () -> x.bend(2, 4));
        due.badArgument("bend(2, -4)", () -> x.bend(2, -4));
        due.badArgument("bend(2, max)", () -> x.bend(2, Integer.MAX_VALUE));
        due.badArgument("bend(2, min)", () -> x.bend(2, Integer.MIN_VALUE));
        due.noSuch("bend(3, 0)", () -> x.bend(3, 0));
        due.noSuch("bend(-1, 1)", () -> x.bend(-1, 1));
        for (int i = 0; i < 4; i++) {
            due.same("bend 1", x.bend(1, i % 2 == 0 ? 1 : -1), i % 2 == 0 ? 1 : 0);
        }
        due.same("broken by bends", x.isBroken(1), true);
        due.badState("a broken tooth", () -> x.bend(1, 1));
        due.badArgument("0 comes before broken", () -> x.bend(1, 0));
        due.same("contradictions", x.contradictions(), 0);
    }

    private static void replaceTooth() {
        MusicBoxEditor x = new MusicBoxEditor();
        x.play(12);
        x.setGap(1, 7);
        due.same("broken", x.isBroken(1), true);
        due.same("replaceTooth(1)", x.replaceTooth(1), 12);
        due.same("wear", x.wear(1), 0);
        due.same("silence", x.silence(1), 99);
        due.same("bend", x.bendOf(1), 0);
        due.same("the pitch stays", x.soundingPitch(1), 14);
        due.same("the gap stays", x.gap(1), 7);
        due.same("not broken", x.isBroken(1), false);
        due.same("changes", x.undoCount(), 3);
        due.same("replaceTooth(1) again", x.replaceTooth(1), 0);
        x.bend(1, 3);
        x.bend(1, -1);
        due.same("pitch", x.soundingPitch(1), 16);
        due.same("replaceTooth(1)", x.replaceTooth(1), 6);
        due.same("the bend is gone", x.bendOf(1), 0);
        due.same("pitch", x.soundingPitch(1), 14);
        x.bend(1, 3);
        x.bend(1, -3);
        x.bend(1, 3);
        due.same("under the strength of 12", x.isBroken(1), false);
        x.bend(1, -3);
        due.same("the strength stays", x.isBroken(1), true);
        due.same("contradictions", x.contradictions(), 0);
    }

    private static void wrongTeeth() {
        MusicBoxEditor x = new MusicBoxEditor();
        wrongTooth("soundingPitch", x::soundingPitch);
        wrongTooth("bendOf", x::bendOf);
        wrongTooth("gap", x::gap);
        wrongTooth("wear", x::wear);
        wrongTooth("silence", x::silence);
        wrongTooth("isBroken", x::isBroken);
        wrongTooth("nextSound", x::nextSound);
        wrongTooth("replaceTooth", x::replaceTooth);
        wrongTooth("stepsUntilBroken", x::stepsUntilBroken);
        due.same("no change", x.undoCount(), 0);
    }

    private static void wrongTooth(String name, Tooth call) {
        for (int tooth : new int[] {-1, 3, 11, 12, Integer.MIN_VALUE, Integer.MAX_VALUE}) {
            due.noSuch(name + "(" + tooth + ")", () -> call.at(tooth));
        }
    }
}
