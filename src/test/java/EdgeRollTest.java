/** The edges of promises 8 to 16 and 41 to 46 and of the roll, sentence by sentence. */
public final class EdgeRollTest {
    private static final Due due = new Due();

    public static void main(String[] args) {
        stepCount();
        selectedTuneAtFirst();
        position();
        isPin();
        pinCount();
        chord();
        distanceAroundTheRoll();
        distanceOfTheOnlyPin();
        distanceWithoutPin();
        closePins();
        longestRestAroundTheRoll();
        longestRestOfNoPins();
        longestRestOfAFullTune();
        addPin();
        removePin();
        shift();
        shiftModulo();
        transposeRange();
        transposeOverTheComb();
        transposeOfNoPins();
        copyTune();
        copyOfAnEmptyTune();
        selectTune();
        changesOfNothing();
        due.end();
    }

    private static void stepCount() {
        due.about("@return 4 to 64");
        due.same("least", Due.box("box 4 1 0;tooth 5 3 30;").stepCount(), 4);
        due.same("greatest", Due.box("box 64 1 0;tooth 5 3 30;").stepCount(), 64);
    }

    private static void selectedTuneAtFirst() {
        due.about("One tune is selected; it is tune 0 at first");
        due.same("a new object", new MusicBoxEditor().selectedTune(), 0);
        due.same("a new box", Due.box("box 4 1 0;tooth 5 3 30;").selectedTune(), 0);
        due.same("the tune that plays", Due.box("box 4 1 0;tooth 5 3 30;pin 0 0 0;").notesIn(1), 1);
        due.same("the tune that does not", Due.box("box 4 1 0;tooth 5 3 30;pin 1 0 0;pin 2 0 0;").notesIn(1), 0);
    }

    private static void position() {
        due.about("a position, which is a step and 0 at first; If it equals the number of steps then, it becomes 0");
        MusicBoxEditor x = Due.box("box 4 2 0;tooth 5 3 30;");
        due.same("at first", x.position(), 0);
        for (int i = 1; i <= 8; i++) {
            x.play(1);
            due.same("position", x.position(), i % 4);
        }
        MusicBoxEditor y = Due.box("box 64 20 0;tooth 5 3 30;");
        y.play(63);
        due.same("the last of 64 steps", y.position(), 63);
        due.same("turnsLeft", y.turnsLeft(), 20);
        y.play(1);
        due.same("behind it", y.position(), 0);
        due.same("turnsLeft", y.turnsLeft(), 19);
        y.play(300);
        due.same("300 steps on", y.position(), 300 % 64);
    }

    private static void isPin() {
        due.about("For each tune, tooth and step there is a pin or not");
        MusicBoxEditor x = Due.box("box 64 2 0;tooth 5 3 30;tooth 5 3 30;pin 0 0 0;pin 2 1 63;pin 1 0 32;");
        due.same("the first of all", x.isPin(0, 0, 0), true);
        due.same("the last of all", x.isPin(2, 1, 63), true);
        due.same("step 31", x.isPin(0, 0, 31), false);
        due.same("step 32, a pin of tune 1", x.isPin(1, 0, 32), true);
        due.same("step 0 of tune 1", x.isPin(1, 0, 0), false);
        due.same("step 63 of tune 0", x.isPin(0, 0, 63), false);
        due.same("tooth 1 of step 0", x.isPin(0, 1, 0), false);
        due.same("tooth 0 of step 63", x.isPin(2, 0, 63), false);
        due.about("if there is no such tune, tooth or step");
        due.noSuch("step 64", () -> x.isPin(0, 0, 64));
        due.noSuch("step -1", () -> x.isPin(0, 0, -1));
        due.noSuch("tooth 2", () -> x.isPin(0, 2, 0));
        due.noSuch("tooth -1", () -> x.isPin(0, -1, 0));
        due.noSuch("tune 3", () -> x.isPin(3, 0, 0));
        due.noSuch("tune -1", () -> x.isPin(-1, 0, 0));
        MusicBoxEditor y = new MusicBoxEditor();
        due.same("step 7 of 8", y.isPin(0, 0, 7), false);
        due.noSuch("step 8 of 8", () -> y.isPin(0, 0, 8));
        due.same("tooth 2 of 3", y.isPin(0, 2, 0), false);
        due.noSuch("tooth 3 of 3", () -> y.isPin(0, 3, 0));
    }

    private static MusicBoxEditor full() {
        MusicBoxEditor x = Due.box("box 4 20 0;" + Due.times(12, "tooth 60 1 999;"));
        for (int tooth = 0; tooth < 12; tooth++) {
            for (int step = 0; step < 4; step++) {
                x.addPin(2, tooth, step);
            }
        }
        return x;
    }

    private static void pinCount() {
        due.about("Returns the number of pins of a tune");
        due.same("none", new MusicBoxEditor().pinCount(2), 0);
        MusicBoxEditor x = full();
        due.same("all", x.pinCount(2), 48);
        due.same("of another tune", x.pinCount(1), 0);
        due.same("density of all", x.density(2), 1.0f);
        due.same("meanPitch of all", x.meanPitch(2), 60.0);
        MusicBoxEditor y = Due.box("box 64 1 0;tooth 5 1 999;");
        for (int step = 0; step < 64; step++) {
            due.same("addPin", y.addPin(1, 0, step), step + 1);
        }
        due.same("all of 64", y.pinCount(1), 64);
        due.same("closePins of all", y.closePins(1), 0);
        y.setGap(0, 2);
        due.same("closePins of all", y.closePins(1), 64);
        due.same("longestRest of all", y.longestRest(1), 0);
        due.noSuch("pinCount(3)", () -> y.pinCount(3));
        due.noSuch("pinCount(-1)", () -> y.pinCount(-1));
    }

    private static void chord() {
        due.about("the sum of 2 to the power of each of them");
        MusicBoxEditor x = full();
        due.same("all twelve", x.chord(2, 0), 4095);
        due.same("all twelve", x.chord(2, 3), 4095);
        due.same("none", x.chord(0, 0), 0);
        for (int tooth = 0; tooth < 12; tooth++) {
            x.removePin(2, tooth, 3);
            due.same("all behind tooth " + tooth, x.chord(2, 3), 4095 - ((2 << tooth) - 1));
        }
        due.noSuch("step 4", () -> x.chord(2, 4));
        due.noSuch("step -1", () -> x.chord(2, -1));
        due.noSuch("tune 3", () -> x.chord(3, 0));
        due.noSuch("tune -1", () -> x.chord(-1, 0));
        MusicBoxEditor y = Due.box("box 64 1 0;tooth 5 1 999;pin 0 0 63;");
        due.same("step 63", y.chord(0, 63), 1);
        due.same("step 62", y.chord(0, 62), 0);
        due.noSuch("step 64", () -> y.chord(0, 64));
    }

    private static void distanceAroundTheRoll() {
        due.about("the number of steps from the previous pin of the same tune and tooth to this one, around the roll");
        MusicBoxEditor x = Due.box("box 10 2 0;tooth 1 1 10;tooth 2 1 10;pin 0 0 0;pin 0 0 1;pin 0 0 9;pin 0 1 8;"
                + "pin 1 0 5;pin 2 0 7;pin 0 1 9;");
        due.same("from step 9 to step 0", x.distance(0, 0, 0), 1);
        due.same("from step 0 to step 1", x.distance(0, 0, 1), 1);
        due.same("from step 1 to step 9", x.distance(0, 0, 9), 8);
        due.same("from step 9 to step 8", x.distance(0, 1, 8), 9);
        due.same("from step 8 to step 9", x.distance(0, 1, 9), 1);
        MusicBoxEditor y = Due.box("box 64 2 0;tooth 1 1 10;pin 0 0 0;pin 0 0 63;pin 1 0 31;pin 1 0 32;");
        due.same("from step 63 to step 0", y.distance(0, 0, 0), 1);
        due.same("from step 0 to step 63", y.distance(0, 0, 63), 63);
        due.same("from step 32 to step 31", y.distance(1, 0, 31), 63);
        due.same("from step 31 to step 32", y.distance(1, 0, 32), 1);
    }

    private static void distanceOfTheOnlyPin() {
        due.about("it is the number of all steps if there is no other pin of this tune and tooth");
        MusicBoxEditor x = Due.box("box 4 2 0;tooth 1 1 10;tooth 2 1 10;pin 0 0 0;pin 0 1 0;pin 1 0 0;pin 1 0 2;pin 0 1 3;");
        due.same("of 4 steps", x.distance(0, 0, 0), 4);
        due.same("one of two", x.distance(1, 0, 0), 2);
        x.removePin(1, 0, 2);
        due.same("the one that is left", x.distance(1, 0, 0), 4);
        due.same("of 64 steps", Due.box("box 64 2 0;tooth 1 1 10;pin 0 0 63;").distance(0, 0, 63), 64);
    }

    private static void distanceWithoutPin() {
        due.about("Throws NoSuchElementException if there is no pin");
        MusicBoxEditor x = new MusicBoxEditor();
        due.same("a pin", x.distance(0, 0, 0), 8);
        due.noElement("another step", () -> x.distance(0, 0, 1));
        due.noElement("another tooth", () -> x.distance(0, 1, 0));
        due.noElement("another tune", () -> x.distance(1, 0, 0));
        due.noElement("the last of all", () -> x.distance(2, 2, 7));
        due.about("If several exceptions apply, the one that is listed first is thrown");
        due.noSuch("no such step", () -> x.distance(2, 2, 8));
        due.noSuch("no such tooth", () -> x.distance(2, 3, 7));
        due.noSuch("no such tune", () -> x.distance(3, 2, 7));
        due.noSuch("none of all three", () -> x.distance(-1, -1, -1));
    }

    private static void closePins() {
        due.about("A pin is close if its distance is less than the gap of its tooth");
        MusicBoxEditor x = Due.box("box 10 2 0;tooth 1 3 10;tooth 2 4 10;pin 0 0 0;pin 0 0 3;pin 0 1 0;pin 0 1 3;pin 1 0 4;");
        due.same("a distance of 3 at the gaps 3 and 4", x.closePins(0), 1);
        x.setGap(0, 4);
        due.same("a distance of 3 at the gap 4 twice", x.closePins(0), 2);
        x.setGap(0, 7);
        due.same("distances of 3 and 7 at the gap 7", x.closePins(0), 2);
        x.setGap(0, 8);
        due.same("distances of 3 and 7 at the gap 8", x.closePins(0), 3);
        due.same("no pins", x.closePins(2), 0);
        due.same("one pin", x.closePins(1), 0);
        MusicBoxEditor y = Due.box("box 4 2 0;tooth 1 4 10;pin 0 0 2;");
        due.same("the only pin of 4 steps at the gap 4", y.closePins(0), 0);
        y.setGap(0, 5);
        due.same("the only pin of 4 steps at the gap 5", y.closePins(0), 1);
        MusicBoxEditor z = Due.box("box 9 2 0;tooth 1 9 10;pin 0 0 8;");
        due.same("the only pin of 9 steps at the gap 9", z.closePins(0), 0);
        MusicBoxEditor w = Due.box("box 8 2 0;tooth 1 9 10;pin 0 0 7;");
        due.same("the only pin of 8 steps at the gap 9", w.closePins(0), 1);
        due.same("around the roll", Due.box("box 9 2 0;tooth 1 2 10;pin 0 0 8;pin 0 0 0;").closePins(0), 1);
        due.noSuch("closePins(3)", () -> w.closePins(3));
        due.noSuch("closePins(-1)", () -> w.closePins(-1));
    }

    private static void longestRestAroundTheRoll() {
        due.about("the greatest number of steps without any pin that follow one another around the roll");
        MusicBoxEditor x = Due.box("box 10 2 0;tooth 1 3 10;tooth 2 4 10;pin 0 0 2;pin 0 1 6;pin 1 0 0;pin 2 1 9;");
        due.same("three and five around the end", x.longestRest(0), 5);
        due.same("one pin at the first step", x.longestRest(1), 9);
        due.same("one pin at the last step", x.longestRest(2), 9);
        x.addPin(1, 1, 9);
        due.same("pins at both ends", x.longestRest(1), 8);
        x.addPin(2, 0, 0);
        x.addPin(2, 0, 4);
        due.same("three and four between the ends", x.longestRest(2), 4);
        x.addPin(2, 0, 5);
        due.same("three and three", x.longestRest(2), 3);
        MusicBoxEditor y = Due.box("box 64 2 0;tooth 1 3 10;pin 0 0 31;pin 1 0 0;pin 1 0 1;");
        due.same("one pin of 64 steps", y.longestRest(0), 63);
        due.same("two pins of 64 steps", y.longestRest(1), 62);
        due.noSuch("longestRest(3)", () -> y.longestRest(3));
        due.noSuch("longestRest(-1)", () -> y.longestRest(-1));
    }

    private static void longestRestOfNoPins() {
        due.about("the number of all steps if the tune has no pins");
        due.same("of 4 steps", Due.box("box 4 2 0;tooth 1 3 10;pin 1 0 0;").longestRest(0), 4);
        due.same("of 64 steps", Due.box("box 64 2 0;tooth 1 3 10;pin 1 0 0;").longestRest(2), 64);
    }

    private static void longestRestOfAFullTune() {
        due.about("the greatest number of steps without any pin");
        MusicBoxEditor x = Due.box("box 4 2 0;tooth 1 3 10;tooth 2 4 10;pin 0 0 0;pin 0 1 1;pin 0 0 2;pin 0 1 3;");
        due.same("a pin at each step", x.longestRest(0), 0);
        x.removePin(0, 1, 3);
        due.same("but at one", x.longestRest(0), 1);
        x.removePin(0, 0, 0);
        due.same("but at two around the end", x.longestRest(0), 2);
    }

    private static void addPin() {
        due.about("Adds a pin. Returns the number of pins of the tune");
        MusicBoxEditor x = Due.box("box 64 2 0;tooth 1 3 10;tooth 2 4 10;");
        due.same("the first of all", x.addPin(0, 0, 0), 1);
        due.same("the last of the tune", x.addPin(0, 1, 63), 2);
        due.same("the first of another tune", x.addPin(2, 0, 0), 1);
        due.same("the last of all", x.addPin(2, 1, 63), 2);
        due.same("chord(0, 63)", x.chord(0, 63), 2);
        due.same("undoCount", x.undoCount(), 4);
        due.about("Throws IllegalStateException if there is a pin");
        due.badState("the first twice", () -> x.addPin(0, 0, 0));
        due.badState("the last twice", () -> x.addPin(2, 1, 63));
        due.about("if there is no such tune, tooth or step");
        due.noSuch("step 64", () -> x.addPin(0, 0, 64));
        due.noSuch("step -1", () -> x.addPin(0, 0, -1));
        due.noSuch("tooth 2", () -> x.addPin(0, 2, 0));
        due.noSuch("tooth -1", () -> x.addPin(0, -1, 0));
        due.noSuch("tune 3", () -> x.addPin(3, 0, 0));
        due.noSuch("tune -1", () -> x.addPin(-1, 0, 0));
        due.same("undoCount", x.undoCount(), 4);
        due.same("pinCount", x.pinCount(0), 2);
        x.removePin(0, 0, 0);
        due.same("a pin that was removed", x.addPin(0, 0, 0), 2);
    }

    private static void removePin() {
        due.about("Removes a pin. Returns the number of pins of the tune");
        MusicBoxEditor x = Due.box("box 64 2 0;tooth 1 3 10;tooth 2 4 10;pin 0 0 0;pin 0 1 63;pin 2 1 63;pin 2 0 62;");
        due.same("one of two", x.removePin(0, 1, 63), 1);
        due.same("the last one", x.removePin(0, 0, 0), 0);
        due.same("the other tune stays", x.pinCount(2), 2);
        due.about("Throws IllegalStateException if there is no pin");
        due.badState("the same again", () -> x.removePin(0, 0, 0));
        due.badState("another step", () -> x.removePin(2, 1, 62));
        due.badState("another tooth", () -> x.removePin(2, 0, 63));
        due.badState("another tune", () -> x.removePin(1, 1, 63));
        due.about("If several exceptions apply, the one that is listed first is thrown");
        due.noSuch("step 64", () -> x.removePin(2, 1, 64));
        due.noSuch("step -1", () -> x.removePin(2, 1, -1));
        due.noSuch("tooth 2", () -> x.removePin(2, 2, 63));
        due.noSuch("tooth -1", () -> x.removePin(2, -1, 63));
        due.noSuch("tune 3", () -> x.removePin(3, 1, 63));
        due.noSuch("tune -1", () -> x.removePin(-1, 1, 63));
        due.same("undoCount", x.undoCount(), 2);
    }

    private static void shift() {
        due.about("steps: 0 to 63");
        MusicBoxEditor x = new MusicBoxEditor();
        due.badArgument("shift(0, -1)", () -> x.shift(0, -1));
        due.badArgument("shift(0, 64)", () -> x.shift(0, 64));
        due.badArgument("shift(0, least int)", () -> x.shift(0, Integer.MIN_VALUE));
        due.badArgument("shift(0, greatest int)", () -> x.shift(0, Integer.MAX_VALUE));
        due.same("undoCount", x.undoCount(), 0);
        due.same("shift(0, 0)", x.shift(0, 0), 4);
        due.same("shift(0, 63)", x.shift(0, 63), 4);
        due.same("shift of no pins", x.shift(2, 63), 0);
        due.same("undoCount", x.undoCount(), 3);
        due.about("If several exceptions apply, the one that is listed first is thrown");
        due.noSuch("shift(3, 64)", () -> x.shift(3, 64));
        due.noSuch("shift(-1, -1)", () -> x.shift(-1, -1));
        due.noSuch("shift(3, 0)", () -> x.shift(3, 0));
    }

    private static void shiftModulo() {
        due.about("each step becomes the step plus the given number, modulo the number of steps");
        for (int steps : new int[] {4, 5, 63, 64}) {
            for (int by = 0; by <= 63; by++) {
                MusicBoxEditor x = Due.box("box " + steps + " 1 0;tooth 1 3 10;tooth 1 3 10;pin 0 0 0;pin 0 1 1;pin 0 0 "
                        + (steps - 1) + ";pin 1 0 2;");
                String what = "shift by " + by + " of " + steps + " steps";
                due.same(what, x.shift(0, by), 3);
                due.same(what, x.isPin(0, 0, by % steps), true);
                due.same(what, x.isPin(0, 1, (1 + by) % steps), true);
                due.same(what, x.isPin(0, 0, (steps - 1 + by) % steps), true);
                due.same(what, x.pinCount(0), 3);
                due.same(what + " leaves the other tune", x.isPin(1, 0, 2), true);
            }
        }
    }

    private static void transposeRange() {
        due.about("teeth: -11 to 11");
        MusicBoxEditor x = Due.box("box 4 1 0;" + Due.times(12, "tooth 1 3 10;") + "pin 0 0 0;pin 1 11 3;");
        due.same("transpose(0, 11)", x.transpose(0, 11), 1);
        due.same("chord(0, 0)", x.chord(0, 0), 2048);
        due.same("transpose(1, -11)", x.transpose(1, -11), 1);
        due.same("chord(1, 3)", x.chord(1, 3), 1);
        due.badArgument("transpose(0, 12)", () -> x.transpose(0, 12));
        due.badArgument("transpose(0, -12)", () -> x.transpose(0, -12));
        due.badArgument("transpose of no pins", () -> x.transpose(2, 12));
        due.badArgument("transpose of no pins", () -> x.transpose(2, -12));
        due.badArgument("transpose(0, least int)", () -> x.transpose(0, Integer.MIN_VALUE));
        due.badArgument("transpose(0, greatest int)", () -> x.transpose(0, Integer.MAX_VALUE));
        due.about("If several exceptions apply, the one that is listed first is thrown");
        due.noSuch("transpose(3, 12)", () -> x.transpose(3, 12));
        due.noSuch("transpose(-1, -12)", () -> x.transpose(-1, -12));
        due.noSuch("transpose(3, 0)", () -> x.transpose(3, 0));
        due.same("undoCount", x.undoCount(), 2);
    }

    private static void transposeOverTheComb() {
        due.about("Throws IllegalStateException if a pin would belong to a tooth that does not exist");
        MusicBoxEditor x = Due.box("box 4 1 0;" + Due.times(5, "tooth 1 3 10;") + "pin 0 1 0;pin 0 3 1;pin 0 3 2;pin 1 0 0;pin 1 4 0;");
        due.badState("transpose(0, 2)", () -> x.transpose(0, 2));
        due.badState("transpose(0, -2)", () -> x.transpose(0, -2));
        due.badState("transpose(0, 11)", () -> x.transpose(0, 11));
        due.badState("transpose(0, -11)", () -> x.transpose(0, -11));
        due.badState("transpose(1, 1)", () -> x.transpose(1, 1));
        due.badState("transpose(1, -1)", () -> x.transpose(1, -1));
        due.same("chord(0, 0)", x.chord(0, 0), 2);
        due.same("chord(0, 1)", x.chord(0, 1), 8);
        due.same("chord(1, 0)", x.chord(1, 0), 17);
        due.same("undoCount", x.undoCount(), 0);
        due.same("transpose(0, 1)", x.transpose(0, 1), 3);
        due.same("chord(0, 0)", x.chord(0, 0), 4);
        due.same("chord(0, 1)", x.chord(0, 1), 16);
        due.same("chord(0, 2)", x.chord(0, 2), 16);
        due.same("transpose(0, -2)", x.transpose(0, -2), 3);
        due.same("chord(0, 0)", x.chord(0, 0), 1);
        due.same("chord(0, 1)", x.chord(0, 1), 4);
        due.same("chord(0, 2)", x.chord(0, 2), 4);
        due.same("transpose(1, 0)", x.transpose(1, 0), 2);
        due.same("chord(1, 0)", x.chord(1, 0), 17);
        due.about("If several exceptions apply, the one that is listed first is thrown");
        due.badArgument("over the range and over the comb", () -> x.transpose(1, 12));
        due.badArgument("under the range and under the comb", () -> x.transpose(1, -12));
        due.noSuch("no such tune, over the range", () -> x.transpose(3, 12));
    }

    private static void transposeOfNoPins() {
        due.about("if a pin would belong to a tooth that does not exist");
        MusicBoxEditor x = Due.box("box 4 1 0;tooth 1 3 10;pin 0 0 0;");
        due.same("no pins by 11", x.transpose(1, 11), 0);
        due.same("no pins by -11", x.transpose(1, -11), 0);
        due.badState("one pin by 1", () -> x.transpose(0, 1));
        due.badState("one pin by -1", () -> x.transpose(0, -1));
        due.same("one pin by 0", x.transpose(0, 0), 1);
        due.same("undoCount", x.undoCount(), 3);
        x.removePin(0, 0, 0);
        due.same("when the pin is gone", x.transpose(0, 1), 0);
        due.same("a pin is where it was not moved to", x.addPin(0, 0, 0), 1);
    }

    private static void copyTune() {
        due.about("Replaces all pins of a tune by those of another tune");
        MusicBoxEditor x = new MusicBoxEditor();
        due.same("copyTune(0, 1)", x.copyTune(0, 1), 4);
        due.same("a pin before", x.isPin(1, 0, 1), false);
        due.same("the last of the new ones", x.isPin(1, 2, 4), true);
        due.same("pinCount(1)", x.pinCount(1), 4);
        due.same("pinCount(0)", x.pinCount(0), 4);
        due.same("a pin more in the target", x.addPin(1, 0, 1), 5);
        due.same("none in the source", x.isPin(0, 0, 1), false);
        due.about("Throws IllegalArgumentException if both are the same tune");
        for (int tune = 0; tune < 3; tune++) {
            int same = tune;
            due.badArgument("copyTune to itself", () -> x.copyTune(same, same));
        }
        due.about("If several exceptions apply, the one that is listed first is thrown");
        due.noSuch("copyTune(3, 3)", () -> x.copyTune(3, 3));
        due.noSuch("copyTune(-1, -1)", () -> x.copyTune(-1, -1));
        due.about("if there is no such tune");
        due.noSuch("copyTune(3, 0)", () -> x.copyTune(3, 0));
        due.noSuch("copyTune(0, 3)", () -> x.copyTune(0, 3));
        due.noSuch("copyTune(-1, 2)", () -> x.copyTune(-1, 2));
        due.noSuch("copyTune(2, -1)", () -> x.copyTune(2, -1));
        due.same("undoCount", x.undoCount(), 2);
    }

    private static void copyOfAnEmptyTune() {
        due.about("Returns the number of pins of the target afterwards");
        MusicBoxEditor x = new MusicBoxEditor();
        due.same("an empty one over an empty one", Due.box("box 4 1 0;tooth 1 3 10;").copyTune(0, 1), 0);
        due.same("an empty one over four pins", x.copyTune(2, 0), 0);
        due.same("pinCount(0)", x.pinCount(0), 0);
        due.same("two pins over none", x.copyTune(1, 2), 2);
        due.same("pinCount(2)", x.pinCount(2), 2);
        MusicBoxEditor y = full();
        due.same("48 pins", y.copyTune(2, 0), 48);
        due.same("chord(0, 3)", y.chord(0, 3), 4095);
    }

    private static void selectTune() {
        due.about("Selects a tune. Returns the previous tune");
        MusicBoxEditor x = new MusicBoxEditor();
        due.same("selectTune(0)", x.selectTune(0), 0);
        due.same("selectTune(2)", x.selectTune(2), 0);
        due.same("selectTune(1)", x.selectTune(1), 2);
        due.same("selectedTune", x.selectedTune(), 1);
        due.noSuch("selectTune(3)", () -> x.selectTune(3));
        due.noSuch("selectTune(-1)", () -> x.selectTune(-1));
        due.noSuch("selectTune(least int)", () -> x.selectTune(Integer.MIN_VALUE));
        due.noSuch("selectTune(greatest int)", () -> x.selectTune(Integer.MAX_VALUE));
        due.same("selectedTune", x.selectedTune(), 1);
        due.same("undoCount", x.undoCount(), 3);
    }

    private static void changesOfNothing() {
        due.about("The methods that are marked as changes are recorded");
        MusicBoxEditor x = new MusicBoxEditor();
        String before = Due.state(x);
        x.shift(0, 0);
        due.same("shift by 0", x.undoCount(), 1);
        x.shift(1, 8);
        due.same("shift by all steps", x.undoCount(), 2);
        x.transpose(0, 0);
        due.same("transpose by 0", x.undoCount(), 3);
        x.copyTune(1, 2);
        due.same("copyTune", x.undoCount(), 4);
        x.copyTune(2, 1);
        due.same("copyTune of the same pins", x.undoCount(), 5);
        x.undo();
        x.undo();
        x.selectTune(0);
        due.same("selectTune of the same tune", x.undoCount(), 4);
        due.same("state", Due.state(x), before);
    }
}
