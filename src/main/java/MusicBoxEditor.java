import java.util.Arrays;
import java.util.NoSuchElementException;

/**
 * An editor and simulator of a music box, with pins on a roll, a comb of teeth with dampers, a tempo
 * vane, and a spring.
 */
public final class MusicBoxEditor {
    public static final int NONE = -1;

    public static final int SYNTAX = 1;
    public static final int OUT_OF_RANGE = 2;
    public static final int PIN_TWICE = 3;
    public static final int TOO_MANY = 4;

    public static final int REST = 0;
    public static final int BROKEN = 1;
    public static final int NOTE = 2;
    public static final int SQUEAK = 3;

    private static final int TEXT_LIMIT = 800;
    private static final int OUTPUT_LIMIT = 64;
    private static final int SLOTS = 2;

    private static final int TUNES = 3;
    private static final int LEAST_STEPS = 4;
    private static final int MOST_STEPS = 64;
    private static final int MOST_TEETH = 12;
    private static final int MOST_PITCH = 60;
    private static final int MOST_BEND = 3;
    private static final int MOST_GAP = 9;
    private static final int LEAST_STRENGTH = 10;
    private static final int MOST_STRENGTH = 999;
    private static final int MOST_SILENCE = 99;
    private static final int MOST_TURNS = 20;
    private static final int MOST_ANGLE = 90;
    private static final int MOST_PLAYED = 300;

    private static final int NOTE_WEAR = 1;
    private static final int SQUEAK_WEAR = 5;
    private static final int BEND_WEAR = 3;

    // What stands against a change; the numbers rise in the order in which the document lists the exceptions.
    private static final int FINE = 0;
    private static final int NO_SUCH = 1;
    private static final int BAD_ARGUMENT = 2;
    private static final int BAD_STATE = 3;

    private static final String FIRST_SETUP =
            "box 8 5 40; tooth 10 3 30; tooth 14 2 12; tooth 17 4 100; pin 0 0 0; pin 0 1 2; pin 0 2 4; pin 0 1 3; pin 1 0 1; pin 1 0 5;";

    private final Bytes text;
    private final Bytes output;
    private final Tokens tokens;
    private final SetupReader setupReader;
    private final ScriptReader scriptReader;
    private final Script script;
    private final Box box;
    private final Box trial;
    private final History history;
    private final Box[] slots;
    private final boolean[] slotFilled;

    public MusicBoxEditor() {
        text = new Bytes(TEXT_LIMIT);
        output = new Bytes(OUTPUT_LIMIT);
        tokens = new Tokens(text);
        script = new Script();
        box = new Box();
        trial = new Box();
        setupReader = new SetupReader(tokens, trial);
        scriptReader = new ScriptReader(tokens, script);
        history = new History();
        slots = new Box[SLOTS];
        for (int slot = 0; slot < SLOTS; slot++) {
            slots[slot] = new Box();
        }
        slotFilled = new boolean[SLOTS];
        for (int i = 0; i < FIRST_SETUP.length(); i++) {
            text.put(FIRST_SETUP.charAt(i));
        }
        takeSetup();
    }

    // ---- texts

    public int append(int a, int b, int c, int d, int e) throws IllegalStateException {
        int added = bytesIn(a) + bytesIn(b) + bytesIn(c) + bytesIn(d) + bytesIn(e);
        if (text.length + added > TEXT_LIMIT) {
            throw new IllegalStateException("the text buffer would be too long");
        }
        putBytes(a);
        putBytes(b);
        putBytes(c);
        putBytes(d);
        putBytes(e);
        return text.length;
    }

    private static int bytesIn(int word) {
        int count = 0;
        for (int bits = 24; bits >= 0; bits -= 8) {
            if (((word >>> bits) & 255) != 0) {
                count++;
            }
        }
        return count;
    }

    private void putBytes(int word) {
        for (int bits = 24; bits >= 0; bits -= 8) {
            int value = (word >>> bits) & 255;
            if (value != 0) {
                text.put(value);
            }
        }
    }

    public int truncate(int length) throws IllegalArgumentException {
        if (length < 0 || length > text.length) {
            throw new IllegalArgumentException("length out of range");
        }
        int removed = text.length - length;
        text.length = length;
        return removed;
    }

    public int load() {
        takeSetup();
        return tokens.error;
    }

    private void takeSetup() {
        boolean valid = setupReader.readSetup();
        text.length = 0;
        if (!valid) {
            return;
        }
        box.copyFrom(trial);
        history.forgetAll();
        for (int slot = 0; slot < SLOTS; slot++) {
            slotFilled[slot] = false;
        }
    }

    public int runScript() {
        boolean valid = scriptReader.readScript();
        text.length = 0;
        if (!valid) {
            return NONE;
        }
        history.remember(box);
        script.runPart(box, 0, script.commands, 0);
        return script.executed;
    }

    public int errorCode() {
        return tokens.error;
    }

    public int errorPosition() {
        return tokens.errorAt;
    }

    // ---- the roll

    public int stepCount() {
        return box.roll.steps;
    }

    public int selectedTune() {
        return box.roll.selected;
    }

    public int position() {
        return box.roll.position;
    }

    public boolean isPin(int tune, int tooth, int step) throws IndexOutOfBoundsException {
        refuse(box.placeFault(tune, tooth, step));
        return box.roll.hasPin(tune, tooth, step);
    }

    public int pinCount(int tune) throws IndexOutOfBoundsException {
        refuse(box.tuneFault(tune));
        return box.roll.pinsOf(tune);
    }

    public int chord(int tune, int step) throws IndexOutOfBoundsException {
        refuse(Math.max(box.tuneFault(tune), box.stepFault(step)));
        return box.roll.teethAt(tune, step);
    }

    public int distance(int tune, int tooth, int step) throws IndexOutOfBoundsException, NoSuchElementException {
        refuse(box.placeFault(tune, tooth, step));
        if (!box.roll.hasPin(tune, tooth, step)) {
            throw new NoSuchElementException("there is no pin");
        }
        return box.roll.stepsBack(tune, tooth, step);
    }

    public int closePins(int tune) throws IndexOutOfBoundsException {
        refuse(box.tuneFault(tune));
        return box.closePinsOf(tune);
    }

    public int longestRest(int tune) throws IndexOutOfBoundsException {
        refuse(box.tuneFault(tune));
        return box.roll.longestRestOf(tune);
    }

    // ---- the comb

    public int toothCount() {
        return box.toothCount;
    }

    public int soundingPitch(int tooth) throws IndexOutOfBoundsException {
        refuse(box.toothFault(tooth));
        return box.teeth[tooth].pitchNow();
    }

    public int bendOf(int tooth) throws IndexOutOfBoundsException {
        refuse(box.toothFault(tooth));
        return box.teeth[tooth].bend;
    }

    public int gap(int tooth) throws IndexOutOfBoundsException {
        refuse(box.toothFault(tooth));
        return box.teeth[tooth].gap;
    }

    public int wear(int tooth) throws IndexOutOfBoundsException {
        refuse(box.toothFault(tooth));
        return box.teeth[tooth].wear;
    }

    public int silence(int tooth) throws IndexOutOfBoundsException {
        refuse(box.toothFault(tooth));
        return box.teeth[tooth].silence;
    }

    public boolean isBroken(int tooth) throws IndexOutOfBoundsException {
        refuse(box.toothFault(tooth));
        return box.teeth[tooth].brokenNow();
    }

    public int nextSound(int tooth) throws IndexOutOfBoundsException {
        refuse(box.toothFault(tooth));
        return box.soundOf(tooth);
    }

    // ---- spring and vane

    public int turnsLeft() {
        return box.turns;
    }

    public int vane() {
        return box.angle;
    }

    public int tempo() {
        return box.stepsPerMinute();
    }

    public double secondsPerStep() {
        int stepsPerMinute = box.stepsPerMinute();
        return stepsPerMinute < 1 ? 0.0 : 60.0 / (double) stepsPerMinute;
    }

    public long secondsPerStepBits() {
        return bitsOfPositive(secondsPerStep());
    }

    /** The bits of a positive normal double; Double itself is outside the language's rules. */
    private static long bitsOfPositive(double value) {
        double significand = value;
        long exponent = 1023L;
        for (int i = 0; i < 1023 && significand >= 2.0; i++) {
            significand = significand / 2.0;
            exponent++;
        }
        for (int i = 0; i < 1023 && significand < 1.0; i++) {
            significand = significand * 2.0;
            exponent--;
        }
        long fraction = (long) ((significand - 1.0) * (double) (1L << 52));
        return (exponent << 52) + fraction;
    }

    // ---- statistics

    public int noteCount() {
        return box.notes;
    }

    public int squeakCount() {
        return box.squeaks;
    }

    public int stepsPlayed() {
        return box.played;
    }

    public int brokenTeeth() {
        return box.brokenCount();
    }

    public double meanPitch(int tune) throws IndexOutOfBoundsException {
        refuse(box.tuneFault(tune));
        int pins = box.roll.pinsOf(tune);
        return pins == 0 ? 0.0 : (double) box.pitchSum(tune) / (double) pins;
    }

    public float density(int tune) throws IndexOutOfBoundsException {
        refuse(box.tuneFault(tune));
        int places = box.roll.steps * box.toothCount;
        return places < 1 ? 0.0f : (float) box.roll.pinsOf(tune) / (float) places;
    }

    public int contradictions() {
        return box.unexplainedWear() + box.brokenTooEarly();
    }

    // ---- forecasts

    public int stepsLeft() {
        return box.playableSteps();
    }

    public int stepsUntilBroken(int tooth) throws IndexOutOfBoundsException {
        refuse(box.toothFault(tooth));
        trial.copyFrom(box);
        int last = trial.playableSteps();
        for (int steps = 0; steps <= last; steps++) {
            if (trial.teeth[tooth].brokenNow()) {
                return steps;
            }
            trial.playSteps(1);
        }
        return NONE;
    }

    public int notesIn(int steps) throws IllegalArgumentException {
        refuse(rangeFault(steps, 0, MOST_PLAYED));
        trial.copyFrom(box);
        trial.playSteps(steps);
        return trial.notes - box.notes;
    }

    public int squeaksIn(int steps) throws IllegalArgumentException {
        refuse(rangeFault(steps, 0, MOST_PLAYED));
        trial.copyFrom(box);
        trial.playSteps(steps);
        return trial.squeaks - box.squeaks;
    }

    // ---- changes of the roll

    public int addPin(int tune, int tooth, int step) throws IndexOutOfBoundsException, IllegalStateException {
        refuse(box.putPinFault(tune, tooth, step));
        history.remember(box);
        box.roll.putPin(tune, tooth, step);
        return box.roll.pinsOf(tune);
    }

    public int removePin(int tune, int tooth, int step) throws IndexOutOfBoundsException, IllegalStateException {
        refuse(box.takePinFault(tune, tooth, step));
        history.remember(box);
        box.roll.takePin(tune, tooth, step);
        return box.roll.pinsOf(tune);
    }

    public int shift(int tune, int steps) throws IndexOutOfBoundsException, IllegalArgumentException {
        refuse(box.tuneFault(tune));
        refuse(rangeFault(steps, 0, MOST_STEPS - 1));
        history.remember(box);
        box.roll.turnPins(tune, steps);
        return box.roll.pinsOf(tune);
    }

    public int transpose(int tune, int teeth)
            throws IndexOutOfBoundsException, IllegalArgumentException, IllegalStateException {
        refuse(box.tuneFault(tune));
        refuse(rangeFault(teeth, 1 - MOST_TEETH, MOST_TEETH - 1));
        refuse(box.movePinsFault(tune, teeth));
        history.remember(box);
        box.roll.movePins(tune, teeth);
        return box.roll.pinsOf(tune);
    }

    public int copyTune(int source, int target) throws IndexOutOfBoundsException, IllegalArgumentException {
        refuse(Math.max(box.tuneFault(source), box.tuneFault(target)));
        refuse(source == target ? BAD_ARGUMENT : FINE);
        history.remember(box);
        box.roll.copyPins(source, target);
        return box.roll.pinsOf(target);
    }

    public int selectTune(int tune) throws IndexOutOfBoundsException {
        refuse(box.tuneFault(tune));
        history.remember(box);
        int previous = box.roll.selected;
        box.roll.selected = tune;
        return previous;
    }

    // ---- changes of the comb, the spring and the vane

    public int setGap(int tooth, int gap) throws IndexOutOfBoundsException, IllegalArgumentException {
        refuse(box.gapFault(tooth, gap));
        history.remember(box);
        int previous = box.teeth[tooth].gap;
        box.teeth[tooth].gap = gap;
        return previous;
    }

    public int bend(int tooth, int amount)
            throws IndexOutOfBoundsException, IllegalArgumentException, IllegalStateException {
        refuse(box.bendFault(tooth, amount));
        history.remember(box);
        box.bendTooth(tooth, amount);
        return box.teeth[tooth].bend;
    }

    public int replaceTooth(int tooth) throws IndexOutOfBoundsException {
        refuse(box.toothFault(tooth));
        history.remember(box);
        int previous = box.teeth[tooth].wear;
        box.mendTooth(tooth);
        return previous;
    }

    public int setVane(int angle) throws IllegalArgumentException {
        refuse(rangeFault(angle, 0, MOST_ANGLE));
        history.remember(box);
        int previous = box.angle;
        box.angle = angle;
        return previous;
    }

    public int wind(int turns) throws IllegalArgumentException, IllegalStateException {
        refuse(box.windFault(turns));
        history.remember(box);
        box.turns += turns;
        return box.turns;
    }

    public int play(int steps) throws IllegalArgumentException, IllegalStateException {
        refuse(box.playFault(steps));
        history.remember(box);
        return box.playSteps(steps);
    }

    // ---- output, undo and slots

    public int writePins(int tune, int tooth) throws IndexOutOfBoundsException {
        refuse(Math.max(box.tuneFault(tune), box.toothFault(tooth)));
        output.length = 0;
        for (int step = 0; step < box.roll.steps; step++) {
            if (!box.roll.hasPin(tune, tooth, step)) {
                output.put('-');
            } else {
                output.put(box.closePinAt(tune, tooth, step) ? '!' : '#');
            }
        }
        return output.length;
    }

    public int writeComb() {
        output.length = 0;
        for (int tooth = 0; tooth < box.toothCount && tooth < MOST_TEETH; tooth++) {
            if (tooth > 0) {
                output.put(' ');
            }
            if (box.teeth[tooth].brokenNow()) {
                output.put('x');
            } else {
                output.putNumber(box.teeth[tooth].pitchNow());
            }
        }
        return output.length;
    }

    public int outputByte(int index) {
        return output.at(index);
    }

    public int undoCount() {
        return history.count;
    }

    public int undo() throws IllegalStateException {
        refuse(history.count == 0 ? BAD_STATE : FINE);
        history.takeBack(box);
        return history.count;
    }

    public int save(int slot) throws IndexOutOfBoundsException {
        refuse(slotFault(slot));
        slots[slot].copyFrom(box);
        slotFilled[slot] = true;
        return box.roll.position;
    }

    public int restore(int slot) throws IndexOutOfBoundsException, NoSuchElementException {
        refuse(slotFault(slot));
        if (!slotFilled[slot]) {
            throw new NoSuchElementException("the slot is empty");
        }
        box.copyFrom(slots[slot]);
        history.forgetAll();
        return box.roll.position;
    }

    // ---- refusals

    private static int rangeFault(int value, int least, int most) {
        return value < least || value > most ? BAD_ARGUMENT : FINE;
    }

    private static int slotFault(int slot) {
        return slot < 0 || slot >= SLOTS ? NO_SUCH : FINE;
    }

    private static void refuse(int fault)
            throws IndexOutOfBoundsException, IllegalArgumentException, IllegalStateException {
        if (fault == NO_SUCH) {
            throw new IndexOutOfBoundsException("there is no such tune, tooth, step or slot");
        }
        if (fault == BAD_ARGUMENT) {
            throw new IllegalArgumentException("an argument is out of range");
        }
        if (fault == BAD_STATE) {
            throw new IllegalStateException("not possible in this state");
        }
    }

    /** A row of bytes with a limit, made once and filled again and again. */
    private static final class Bytes {
        final int[] values;
        int length;

        Bytes(int limit) {
            values = new int[Math.max(0, limit)];
        }

        void put(int value) {
            if (length >= 0 && length < values.length) {
                values[length] = value;
                length++;
            }
        }

        /** Writes a number from -99 to 99. */
        void putNumber(int number) {
            int size = number < 0 ? -number : number;
            if (number < 0) {
                put('-');
            }
            if (size >= 10) {
                put('0' + size / 10);
            }
            put('0' + size % 10);
        }

        int at(int index) {
            return index >= 0 && index < length && index < values.length ? values[index] : NONE;
        }
    }

    /** The tokens of a text, the one that is read next, and the first error among them. */
    private static final class Tokens {
        static final int END = 0;
        static final int WORD = 1;
        static final int NUMBER = 2;
        static final int SIGN = 3;
        static final int SEPARATOR = 4;

        // Above every range of the grammar, and far enough from where an int wraps around.
        static final int HUGE = 1000000;

        final Bytes text;
        final int[] kinds = new int[TEXT_LIMIT + 1];
        final int[] starts = new int[TEXT_LIMIT + 1];
        final int[] ends = new int[TEXT_LIMIT + 1];
        final int[] values = new int[TEXT_LIMIT + 1];
        int count;
        int here;
        int error;
        int errorAt;

        Tokens(Bytes text) {
            this.text = text;
            errorAt = NONE;
        }

        /** Divides the text into tokens, the last of which is its end. */
        void scan() {
            error = 0;
            errorAt = NONE;
            count = 0;
            here = 0;
            int before = SEPARATOR;
            for (int i = 0; i < text.length; i++) {
                int kind = kindOf(text.at(i));
                if (kind == SIGN || kind != SEPARATOR && kind != before) {
                    putToken(kind, i);
                }
                if (kind != SEPARATOR) {
                    lengthenToken(i);
                }
                before = kind;
            }
            putToken(END, text.length);
        }

        static int kindOf(int value) {
            if (value == ' ' || value == '\n') {
                return SEPARATOR;
            }
            if (value >= 'a' && value <= 'z') {
                return WORD;
            }
            return value >= '0' && value <= '9' ? NUMBER : SIGN;
        }

        void putToken(int kind, int start) {
            if (count >= 0 && count < kinds.length) {
                kinds[count] = kind;
                starts[count] = start;
                ends[count] = start;
                values[count] = 0;
                count++;
            }
        }

        /** Adds the byte at an index to the last token. */
        void lengthenToken(int index) {
            int last = count - 1;
            if (last < 0 || last >= kinds.length) {
                return;
            }
            ends[last] = index + 1;
            if (kinds[last] == NUMBER) {
                values[last] = Math.min(HUGE, values[last] * 10 + text.at(index) - '0');
            }
        }

        void advance() {
            if (here < count - 1) {
                here++;
            }
        }

        /** All rows of tokens have the same length. */
        boolean atKind(int kind) {
            return here >= 0 && here < kinds.length && kinds[here] == kind;
        }

        boolean atAnyWord() {
            return atKind(WORD);
        }

        boolean atWord(String word) {
            if (!atKind(WORD) || ends[here] - starts[here] != word.length()) {
                return false;
            }
            int start = starts[here];
            for (int i = 0; i < word.length(); i++) {
                if (text.at(start + i) != word.charAt(i)) {
                    return false;
                }
            }
            return true;
        }

        boolean atSign(char sign) {
            return atKind(SIGN) && text.at(starts[here]) == sign;
        }

        /** Notes an error of the present token; the answer is always false. */
        boolean fail(int code) {
            error = code;
            errorAt = here >= 0 && here < starts.length ? starts[here] : NONE;
            return false;
        }

        /** Notes an error of the token that was taken last; the answer is always false. */
        boolean failTaken(int code) {
            error = code;
            errorAt = here >= 1 && here <= starts.length ? starts[here - 1] : NONE;
            return false;
        }

        boolean takeWord(String word) {
            if (!atWord(word)) {
                return fail(SYNTAX);
            }
            advance();
            return true;
        }

        boolean takeSign(char sign) {
            if (!atSign(sign)) {
                return fail(SYNTAX);
            }
            advance();
            return true;
        }

        /** The number that the present token is, or NONE after an error. */
        int takeNumber(int least, int most) {
            if (!atKind(NUMBER)) {
                fail(SYNTAX);
                return NONE;
            }
            int number = values[here];
            if (number < least || number > most) {
                fail(OUT_OF_RANGE);
                return NONE;
            }
            advance();
            return number;
        }

        boolean takeEnd() {
            return atKind(END) || fail(SYNTAX);
        }
    }

    /** Reads a setup into a box, which is of use only if there was no error. */
    private static final class SetupReader {
        final Tokens tokens;
        final Box target;

        SetupReader(Tokens tokens, Box target) {
            this.tokens = tokens;
            this.target = target;
        }

        boolean readSetup() {
            tokens.scan();
            if (!readHead() || !readTooth()) {
                return false;
            }
            // One round more than there may be teeth, as the word of a 13th has an error of its own.
            for (int i = 0; i < MOST_TEETH && tokens.atWord("tooth"); i++) {
                if (!readTooth()) {
                    return false;
                }
            }
            for (int i = 0; i < TEXT_LIMIT && tokens.atWord("pin"); i++) {
                tokens.advance();
                if (!readPlace()) {
                    return false;
                }
            }
            return tokens.takeEnd();
        }

        boolean readHead() {
            if (!tokens.takeWord("box")) {
                return false;
            }
            int steps = tokens.takeNumber(LEAST_STEPS, MOST_STEPS);
            if (steps == NONE) {
                return false;
            }
            int turns = tokens.takeNumber(0, MOST_TURNS);
            if (turns == NONE) {
                return false;
            }
            int angle = tokens.takeNumber(0, MOST_ANGLE);
            if (angle == NONE) {
                return false;
            }
            target.begin(steps, turns, angle);
            return tokens.takeSign(';');
        }

        boolean readTooth() {
            if (tokens.atWord("tooth") && target.toothCount >= MOST_TEETH) {
                return tokens.fail(TOO_MANY);
            }
            if (!tokens.takeWord("tooth")) {
                return false;
            }
            int pitch = tokens.takeNumber(0, MOST_PITCH);
            if (pitch == NONE) {
                return false;
            }
            int gap = tokens.takeNumber(1, MOST_GAP);
            if (gap == NONE) {
                return false;
            }
            int strength = tokens.takeNumber(LEAST_STRENGTH, MOST_STRENGTH);
            if (strength == NONE) {
                return false;
            }
            target.putTooth(pitch, gap, strength);
            return tokens.takeSign(';');
        }

        /** Reads what stands behind the word of a pin. */
        boolean readPlace() {
            int tune = tokens.takeNumber(0, TUNES - 1);
            if (tune == NONE) {
                return false;
            }
            int tooth = tokens.takeNumber(0, target.toothCount - 1);
            if (tooth == NONE) {
                return false;
            }
            int step = tokens.takeNumber(0, target.roll.steps - 1);
            if (step == NONE) {
                return false;
            }
            if (target.roll.hasPin(tune, tooth, step)) {
                return tokens.failTaken(PIN_TWICE);
            }
            target.roll.putPin(tune, tooth, step);
            return tokens.takeSign(';');
        }
    }

    /** Reads a script. */
    private static final class ScriptReader {
        final Tokens tokens;
        final Script target;

        ScriptReader(Tokens tokens, Script target) {
            this.tokens = tokens;
            this.target = target;
        }

        boolean readScript() {
            target.begin();
            tokens.scan();
            return readCommands(0) && tokens.takeEnd();
        }

        /** Reads commands with their semicolons; the level is the number of brackets that are open. */
        private boolean readCommands(int level) {
            // One round more than there may be commands, as the word of a 31st has an error of its own.
            for (int i = 0; i <= Script.MOST_COMMANDS && tokens.atAnyWord(); i++) {
                int kind = kindHere();
                if (kind == NONE) {
                    return tokens.fail(SYNTAX);
                }
                if (target.commands >= Script.MOST_COMMANDS) {
                    return tokens.fail(TOO_MANY);
                }
                tokens.advance();
                int command = target.putCommand(kind, level);
                boolean read = kind == Script.REPEAT ? readRepeat(command, level) : readArguments(command, kind);
                if (!read || !tokens.takeSign(';')) {
                    return false;
                }
            }
            return true;
        }

        private boolean readRepeat(int command, int level) {
            if (!readArgument(command, 0, 0, Script.MOST_TIMES)) {
                return false;
            }
            if (tokens.atSign('(') && level >= Script.MOST_LEVELS) {
                return tokens.fail(TOO_MANY);
            }
            if (!tokens.takeSign('(') || !readCommands(level + 1)) {
                return false;
            }
            target.closeRepeat(command);
            return tokens.takeSign(')');
        }

        int kindHere() {
            if (tokens.atWord("pin")) {
                return Script.PIN;
            }
            if (tokens.atWord("unpin")) {
                return Script.UNPIN;
            }
            if (tokens.atWord("gap")) {
                return Script.GAP;
            }
            if (tokens.atWord("bend")) {
                return Script.BEND;
            }
            if (tokens.atWord("mend")) {
                return Script.MEND;
            }
            if (tokens.atWord("vane")) {
                return Script.VANE;
            }
            if (tokens.atWord("wind")) {
                return Script.WIND;
            }
            if (tokens.atWord("tune")) {
                return Script.TUNE;
            }
            if (tokens.atWord("play")) {
                return Script.PLAY;
            }
            return tokens.atWord("repeat") ? Script.REPEAT : NONE;
        }

        boolean readArguments(int command, int kind) {
            switch (kind) {
                case Script.PIN:
                case Script.UNPIN:
                    return readArgument(command, 0, 0, TUNES - 1)
                            && readArgument(command, 1, 0, MOST_TEETH - 1)
                            && readArgument(command, 2, 0, MOST_STEPS - 1);
                case Script.GAP:
                    return readArgument(command, 0, 0, MOST_TEETH - 1) && readArgument(command, 1, 1, MOST_GAP);
                case Script.BEND:
                    return readArgument(command, 0, 0, MOST_TEETH - 1)
                            && readDirection(command, 1)
                            && readArgument(command, 2, 1, MOST_BEND);
                case Script.MEND:
                    return readArgument(command, 0, 0, MOST_TEETH - 1);
                case Script.VANE:
                    return readArgument(command, 0, 0, MOST_ANGLE);
                case Script.WIND:
                    return readArgument(command, 0, 1, MOST_TURNS);
                case Script.TUNE:
                    return readArgument(command, 0, 0, TUNES - 1);
                default:
                    return readArgument(command, 0, 1, MOST_PLAYED);
            }
        }

        boolean readArgument(int command, int place, int least, int most) {
            int value = tokens.takeNumber(least, most);
            if (value == NONE) {
                return false;
            }
            target.putArgument(command, place, value);
            return true;
        }

        /** Reads a direction, which is kept as the sign of the amount behind it. */
        boolean readDirection(int command, int place) {
            boolean up = tokens.atWord("up");
            if (!up && !tokens.atWord("down")) {
                return tokens.fail(SYNTAX);
            }
            tokens.advance();
            target.putArgument(command, place, up ? 1 : -1);
            return true;
        }
    }

    /** The commands of a script, in the order of the text, those of a repeat right behind it. */
    private static final class Script {
        static final int MOST_COMMANDS = 30;
        static final int MOST_LEVELS = 2;
        static final int MOST_TIMES = 20;
        static final int MOST_EXECUTED = 40;
        static final int ARGUMENTS = 3;

        static final int PIN = 0;
        static final int UNPIN = 1;
        static final int GAP = 2;
        static final int BEND = 3;
        static final int MEND = 4;
        static final int VANE = 5;
        static final int WIND = 6;
        static final int TUNE = 7;
        static final int PLAY = 8;
        static final int REPEAT = 9;

        final int[] kinds = new int[MOST_COMMANDS];
        final int[] levels = new int[MOST_COMMANDS];
        /** For each repeat the number of the command behind its bracket. */
        final int[] partEnds = new int[MOST_COMMANDS];
        final int[] arguments = new int[MOST_COMMANDS * ARGUMENTS];
        int commands;
        int executed;
        boolean ended;

        void begin() {
            commands = 0;
            executed = 0;
            ended = false;
        }

        /** The number of the new command, or NONE if there is no room for it. */
        int putCommand(int kind, int level) {
            if (commands < 0 || commands >= MOST_COMMANDS) {
                return NONE;
            }
            int command = commands;
            kinds[command] = kind;
            levels[command] = level;
            commands++;
            return command;
        }

        void putArgument(int command, int place, int value) {
            int index = command * ARGUMENTS + place;
            if (index >= 0 && index < arguments.length) {
                arguments[index] = value;
            }
        }

        int argument(int command, int place) {
            int index = command * ARGUMENTS + place;
            return index >= 0 && index < arguments.length ? arguments[index] : NONE;
        }

        /** Makes all commands since the repeat those that it repeats. */
        void closeRepeat(int command) {
            if (command >= 0 && command < MOST_COMMANDS) {
                partEnds[command] = commands;
            }
        }

        /** Runs the commands of one level and, through repeats, the deeper ones among them. */
        private void runPart(Box box, int from, int to, int level) {
            int end = level > MOST_LEVELS ? from : Math.min(to, MOST_COMMANDS);
            for (int command = Math.max(0, from); command < end && !ended; command++) {
                // What lies deeper belongs to a repeat before it, which has run it already.
                if (levels[command] != level) {
                    continue;
                }
                int kind = kinds[command];
                if (kind == REPEAT) {
                    for (int i = argument(command, 0); i > 0 && !ended; i--) {
                        runPart(box, command + 1, partEnds[command], level + 1);
                    }
                } else if (faultOf(box, kind, command) == FINE) {
                    execute(box, kind, command);
                    executed++;
                    ended = executed >= MOST_EXECUTED;
                } else {
                    ended = true;
                }
            }
        }

        int faultOf(Box box, int kind, int command) {
            int first = argument(command, 0);
            int second = argument(command, 1);
            int third = argument(command, 2);
            switch (kind) {
                case PIN:
                    return box.putPinFault(first, second, third);
                case UNPIN:
                    return box.takePinFault(first, second, third);
                case GAP:
                    return box.gapFault(first, second);
                case BEND:
                    return box.bendFault(first, second * third);
                case MEND:
                    return box.toothFault(first);
                case VANE:
                    return rangeFault(first, 0, MOST_ANGLE);
                case WIND:
                    return box.windFault(first);
                case TUNE:
                    return box.tuneFault(first);
                default:
                    return box.playFault(first);
            }
        }

        void execute(Box box, int kind, int command) {
            int first = argument(command, 0);
            int second = argument(command, 1);
            int third = argument(command, 2);
            switch (kind) {
                case PIN:
                    box.roll.putPin(first, second, third);
                    break;
                case UNPIN:
                    box.roll.takePin(first, second, third);
                    break;
                case GAP:
                    box.teeth[first].gap = second;
                    break;
                case BEND:
                    box.bendTooth(first, second * third);
                    break;
                case MEND:
                    box.mendTooth(first);
                    break;
                case VANE:
                    box.angle = first;
                    break;
                case WIND:
                    box.turns += first;
                    break;
                case TUNE:
                    box.roll.selected = first;
                    break;
                default:
                    box.playSteps(first);
                    break;
            }
        }
    }

    /** The roll with the pins of its tunes; the pins of one tooth in one tune are the bits of a long. */
    private static final class Roll {
        final long[] rows = new long[TUNES * MOST_TEETH];
        int steps = LEAST_STEPS;
        int position;
        int selected;

        void begin(int stepCount) {
            steps = stepCount;
            position = 0;
            selected = 0;
            Arrays.fill(rows, 0L);
        }

        void copyFrom(Roll other) {
            System.arraycopy(other.rows, 0, rows, 0, rows.length);
            steps = other.steps;
            position = other.position;
            selected = other.selected;
        }

        static boolean holds(int tune, int tooth) {
            return tune >= 0 && tune < TUNES && tooth >= 0 && tooth < MOST_TEETH;
        }

        long row(int tune, int tooth) {
            return holds(tune, tooth) ? rows[tune * MOST_TEETH + tooth] : 0L;
        }

        void setRow(int tune, int tooth, long row) {
            if (holds(tune, tooth)) {
                rows[tune * MOST_TEETH + tooth] = row;
            }
        }

        boolean hasPin(int tune, int tooth, int step) {
            return tune >= 0 && tune < TUNES && tooth >= 0 && tooth < MOST_TEETH
                    && ((rows[tune * MOST_TEETH + tooth] >>> step) & 1L) != 0L;
        }

        void putPin(int tune, int tooth, int step) {
            setRow(tune, tooth, row(tune, tooth) | (1L << step));
        }

        void takePin(int tune, int tooth, int step) {
            setRow(tune, tooth, row(tune, tooth) & ~(1L << step));
        }

        int pinsOf(int tune) {
            int pins = 0;
            for (int tooth = 0; tooth < MOST_TEETH; tooth++) {
                pins += Long.bitCount(row(tune, tooth));
            }
            return pins;
        }

        int teethAt(int tune, int step) {
            int set = 0;
            for (int tooth = 0; tooth < MOST_TEETH; tooth++) {
                if (hasPin(tune, tooth, step)) {
                    set |= 1 << tooth;
                }
            }
            return set;
        }

        int stepsBack(int tune, int tooth, int step) {
            for (int back = 1; back < steps; back++) {
                int before = step >= back ? step - back : step - back + steps;
                if (hasPin(tune, tooth, before)) {
                    return back;
                }
            }
            return steps;
        }

        int longestRestOf(int tune) {
            int longest = 0;
            int rest = 0;
            // Twice around, for a rest may go over the end of the roll.
            for (int i = 0; i < 2 * steps; i++) {
                int step = i < steps ? i : i - steps;
                rest = teethAt(tune, step) == 0 ? rest + 1 : 0;
                longest = Math.max(longest, rest);
            }
            return Math.min(longest, steps);
        }

        void turnPins(int tune, int by) {
            int forward = Math.floorMod(by, Math.max(1, steps));
            for (int tooth = 0; tooth < MOST_TEETH; tooth++) {
                setRow(tune, tooth, turnedRow(row(tune, tooth), forward));
            }
        }

        long turnedRow(long row, int forward) {
            long turned = 0L;
            for (int step = 0; step < steps; step++) {
                int target = step + forward < steps ? step + forward : step + forward - steps;
                turned |= ((row >>> step) & 1L) << target;
            }
            return turned;
        }

        void movePins(int tune, int by) {
            // Away from where the pins go, so that no row is overwritten before it has moved.
            for (int i = 0; i < MOST_TEETH; i++) {
                int tooth = by > 0 ? MOST_TEETH - 1 - i : i;
                setRow(tune, tooth, row(tune, tooth - by));
            }
        }

        void copyPins(int source, int target) {
            for (int tooth = 0; tooth < MOST_TEETH; tooth++) {
                setRow(target, tooth, row(source, tooth));
            }
        }

        /** Goes on by one step; true if that was the last of a turn. */
        boolean goOn() {
            position++;
            if (position < steps) {
                return false;
            }
            position = 0;
            return true;
        }
    }

    /** A tooth of the comb. */
    private static final class Tooth {
        int pitch;
        int bend;
        int gap;
        int strength;
        int wear;
        int silence;

        void begin(int newPitch, int newGap, int newStrength) {
            pitch = newPitch;
            gap = newGap;
            strength = newStrength;
            renew();
        }

        void renew() {
            bend = 0;
            wear = 0;
            silence = MOST_SILENCE;
        }

        void copyFrom(Tooth other) {
            pitch = other.pitch;
            bend = other.bend;
            gap = other.gap;
            strength = other.strength;
            wear = other.wear;
            silence = other.silence;
        }

        int pitchNow() {
            return pitch + bend;
        }

        boolean brokenNow() {
            return wear >= strength;
        }

        boolean dampedNow() {
            return silence >= gap;
        }

        void pluck(int addedWear) {
            wear += addedWear;
            silence = 0;
        }

        void passStep() {
            silence = Math.min(MOST_SILENCE, silence + 1);
        }
    }

    /** Everything that undo restores: the roll, the comb, the spring, the vane and the statistics. */
    private static final class Box {
        final Roll roll = new Roll();
        final Tooth[] teeth = new Tooth[MOST_TEETH];
        int toothCount;
        int turns;
        int angle;
        int notes;
        int squeaks;
        int played;
        int bends;
        int replacedWear;

        Box() {
            for (int tooth = 0; tooth < MOST_TEETH; tooth++) {
                teeth[tooth] = new Tooth();
            }
        }

        void begin(int steps, int newTurns, int newAngle) {
            roll.begin(steps);
            toothCount = 0;
            turns = newTurns;
            angle = newAngle;
            notes = 0;
            squeaks = 0;
            played = 0;
            bends = 0;
            replacedWear = 0;
        }

        void putTooth(int pitch, int gap, int strength) {
            if (toothCount >= 0 && toothCount < MOST_TEETH) {
                teeth[toothCount].begin(pitch, gap, strength);
                toothCount++;
            }
        }

        void copyFrom(Box other) {
            roll.copyFrom(other.roll);
            for (int tooth = 0; tooth < MOST_TEETH; tooth++) {
                teeth[tooth].copyFrom(other.teeth[tooth]);
            }
            toothCount = other.toothCount;
            turns = other.turns;
            angle = other.angle;
            notes = other.notes;
            squeaks = other.squeaks;
            played = other.played;
            bends = other.bends;
            replacedWear = other.replacedWear;
        }

        int tuneFault(int tune) {
            return tune < 0 || tune >= TUNES ? NO_SUCH : FINE;
        }

        int toothFault(int tooth) {
            return tooth < 0 || tooth >= toothCount || tooth >= MOST_TEETH ? NO_SUCH : FINE;
        }

        int stepFault(int step) {
            return step < 0 || step >= roll.steps ? NO_SUCH : FINE;
        }

        int placeFault(int tune, int tooth, int step) {
            return Math.max(tuneFault(tune), Math.max(toothFault(tooth), stepFault(step)));
        }

        int putPinFault(int tune, int tooth, int step) {
            if (placeFault(tune, tooth, step) != FINE) {
                return NO_SUCH;
            }
            return roll.hasPin(tune, tooth, step) ? BAD_STATE : FINE;
        }

        int takePinFault(int tune, int tooth, int step) {
            if (placeFault(tune, tooth, step) != FINE) {
                return NO_SUCH;
            }
            return roll.hasPin(tune, tooth, step) ? FINE : BAD_STATE;
        }

        int movePinsFault(int tune, int by) {
            for (int tooth = 0; tooth < toothCount && tooth < MOST_TEETH; tooth++) {
                if (roll.row(tune, tooth) != 0L && toothFault(tooth + by) != FINE) {
                    return BAD_STATE;
                }
            }
            return FINE;
        }

        int gapFault(int tooth, int gap) {
            if (toothFault(tooth) != FINE) {
                return NO_SUCH;
            }
            return rangeFault(gap, 1, MOST_GAP);
        }

        int bendFault(int tooth, int amount) {
            if (toothFault(tooth) != FINE) {
                return NO_SUCH;
            }
            if (amount == 0 || amount < -MOST_BEND || amount > MOST_BEND) {
                return BAD_ARGUMENT;
            }
            int bent = teeth[tooth].bend + amount;
            return teeth[tooth].brokenNow() || bent < -MOST_BEND || bent > MOST_BEND ? BAD_STATE : FINE;
        }

        int windFault(int added) {
            if (added < 1 || added > MOST_TURNS) {
                return BAD_ARGUMENT;
            }
            return turns + added > MOST_TURNS ? BAD_STATE : FINE;
        }

        int playFault(int steps) {
            if (steps < 1 || steps > MOST_PLAYED) {
                return BAD_ARGUMENT;
            }
            return turns == 0 ? BAD_STATE : FINE;
        }

        void bendTooth(int tooth, int amount) {
            teeth[tooth].bend += amount;
            teeth[tooth].wear += BEND_WEAR;
            bends++;
        }

        void mendTooth(int tooth) {
            replacedWear += teeth[tooth].wear;
            teeth[tooth].renew();
        }

        int playSteps(int steps) {
            int done = 0;
            while (done < steps && turns > 0) {
                playStep();
                done++;
            }
            return done;
        }

        void playStep() {
            for (int tooth = 0; tooth < toothCount && tooth < MOST_TEETH; tooth++) {
                int sound = soundOf(tooth);
                if (sound == NOTE) {
                    notes++;
                    teeth[tooth].pluck(NOTE_WEAR);
                } else if (sound == SQUEAK) {
                    squeaks++;
                    teeth[tooth].pluck(SQUEAK_WEAR);
                }
            }
            for (int tooth = 0; tooth < toothCount && tooth < MOST_TEETH; tooth++) {
                teeth[tooth].passStep();
            }
            if (roll.goOn()) {
                turns--;
            }
            played++;
        }

        int soundOf(int tooth) {
            if (!roll.hasPin(roll.selected, tooth, roll.position)) {
                return REST;
            }
            if (teeth[tooth].brokenNow()) {
                return BROKEN;
            }
            return teeth[tooth].dampedNow() ? NOTE : SQUEAK;
        }

        int playableSteps() {
            return turns == 0 ? 0 : turns * roll.steps - roll.position;
        }

        int stepsPerMinute() {
            return (60 + 4 * turns) * (100 - angle) / 100;
        }

        boolean closePinAt(int tune, int tooth, int step) {
            return roll.hasPin(tune, tooth, step) && roll.stepsBack(tune, tooth, step) < teeth[tooth].gap;
        }

        int closePinsOf(int tune) {
            int close = 0;
            for (int tooth = 0; tooth < toothCount && tooth < MOST_TEETH; tooth++) {
                for (int step = 0; step < roll.steps; step++) {
                    if (closePinAt(tune, tooth, step)) {
                        close++;
                    }
                }
            }
            return close;
        }

        int brokenCount() {
            int broken = 0;
            for (int tooth = 0; tooth < toothCount && tooth < MOST_TEETH; tooth++) {
                if (teeth[tooth].brokenNow()) {
                    broken++;
                }
            }
            return broken;
        }

        int pitchSum(int tune) {
            int sum = 0;
            for (int tooth = 0; tooth < toothCount && tooth < MOST_TEETH; tooth++) {
                sum += Long.bitCount(roll.row(tune, tooth)) * teeth[tooth].pitchNow();
            }
            return sum;
        }

        int unexplainedWear() {
            int worn = replacedWear;
            for (int tooth = 0; tooth < toothCount && tooth < MOST_TEETH; tooth++) {
                worn += teeth[tooth].wear;
            }
            return Math.abs(worn - (notes * NOTE_WEAR + squeaks * SQUEAK_WEAR + bends * BEND_WEAR));
        }

        int brokenTooEarly() {
            int early = 0;
            for (int tooth = 0; tooth < toothCount && tooth < MOST_TEETH; tooth++) {
                if (teeth[tooth].brokenNow() && teeth[tooth].wear < teeth[tooth].strength) {
                    early++;
                }
            }
            return early;
        }
    }

    /** The boxes before the latest changes; the oldest is overwritten when a new one needs its place. */
    private static final class History {
        static final int MOST_CHANGES = 8;

        final Box[] kept = new Box[MOST_CHANGES];
        int count;
        int next;

        History() {
            for (int i = 0; i < MOST_CHANGES; i++) {
                kept[i] = new Box();
            }
        }

        void forgetAll() {
            count = 0;
        }

        void remember(Box box) {
            if (next >= 0 && next < MOST_CHANGES) {
                kept[next].copyFrom(box);
            }
            next = next < MOST_CHANGES - 1 ? next + 1 : 0;
            count = Math.min(MOST_CHANGES, count + 1);
        }

        void takeBack(Box box) {
            if (count <= 0) {
                return;
            }
            next = next > 0 ? next - 1 : MOST_CHANGES - 1;
            if (next >= 0 && next < MOST_CHANGES) {
                box.copyFrom(kept[next]);
            }
            count--;
        }
    }
}
