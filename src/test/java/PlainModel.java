import java.util.ArrayList;
import java.util.List;

/**
 * The document's words in the plainest Java, without regard to cost: deep copies for undo, a list of
 * tokens, exceptions for errors. It shares nothing with the class that it is compared with.
 */
final class PlainModel {
    /** A refusal: 1 IndexOutOfBounds, 2 IllegalArgument, 3 IllegalState, 4 NoSuchElement. */
    static final class Refused extends RuntimeException {
        private static final long serialVersionUID = 1L;
        final int kind;

        Refused(int kind) {
            this.kind = kind;
        }
    }

    private static final class BadText extends RuntimeException {
        private static final long serialVersionUID = 1L;
        final int code;
        final int position;

        BadText(int code, int position) {
            this.code = code;
            this.position = position;
        }
    }

    private static final class State {
        int steps, selected, position, turns, angle, notes, squeaks, played;
        boolean[][][] pins = new boolean[3][12][64];
        List<int[]> teeth = new ArrayList<>(); // pitch, bend, gap, strength, wear, silence

        State copy() {
            State c = new State();
            c.steps = steps;
            c.selected = selected;
            c.position = position;
            c.turns = turns;
            c.angle = angle;
            c.notes = notes;
            c.squeaks = squeaks;
            c.played = played;
            for (int u = 0; u < 3; u++) {
                for (int t = 0; t < 12; t++) {
                    c.pins[u][t] = pins[u][t].clone();
                }
            }
            for (int[] tooth : teeth) {
                c.teeth.add(tooth.clone());
            }
            return c;
        }
    }

    private record Token(String text, int at) {
        boolean number() {
            return text.matches("[0-9]+");
        }
    }

    private State s = new State();
    private final List<State> undo = new ArrayList<>();
    private final State[] slots = new State[2];
    private String text = "";
    private String output = "";
    private int code = 0;
    private int codeAt = -1;

    private List<Token> tokens;
    private int next;

    PlainModel() {
        text = "box 8 5 40; tooth 10 3 30; tooth 14 2 12; tooth 17 4 100; pin 0 0 0; pin 0 1 2; "
                + "pin 0 2 4; pin 0 1 3; pin 1 0 1; pin 1 0 5;";
        load();
    }

    // ---- texts

    int append(int[] words) {
        StringBuilder more = new StringBuilder(text);
        for (int word : words) {
            for (int b : new int[] {word >>> 24, word >> 16 & 255, word >> 8 & 255, word & 255}) {
                if (b != 0) {
                    more.append((char) b);
                }
            }
        }
        if (more.length() > 800) {
            throw new Refused(3);
        }
        text = more.toString();
        return text.length();
    }

    int truncate(int length) {
        if (length < 0 || length > text.length()) {
            throw new Refused(2);
        }
        int removed = text.length() - length;
        text = text.substring(0, length);
        return removed;
    }

    private void tokenize() {
        tokens = new ArrayList<>();
        next = 0;
        java.util.regex.Matcher m = java.util.regex.Pattern.compile("[a-z]+|[0-9]+|[^ \\n]", java.util.regex.Pattern.DOTALL)
                .matcher(text);
        while (m.find()) {
            tokens.add(new Token(m.group(), m.start()));
        }
        tokens.add(new Token("", text.length()));
        text = "";
    }

    private Token token() {
        return tokens.get(next);
    }

    private void word(String word) {
        if (!token().text().equals(word)) {
            throw new BadText(1, token().at());
        }
        next++;
    }

    private int number(int least, int most) {
        Token t = token();
        if (!t.number()) {
            throw new BadText(1, t.at());
        }
        java.math.BigInteger value = new java.math.BigInteger(t.text());
        if (value.compareTo(java.math.BigInteger.valueOf(least)) < 0
                || value.compareTo(java.math.BigInteger.valueOf(most)) > 0) {
            throw new BadText(2, t.at());
        }
        next++;
        return value.intValue();
    }

    int load() {
        tokenize();
        code = 0;
        codeAt = -1;
        try {
            State loaded = setup();
            s = loaded;
            undo.clear();
            slots[0] = null;
            slots[1] = null;
        } catch (BadText e) {
            code = e.code;
            codeAt = e.position;
        }
        return code;
    }

    private State setup() {
        State n = new State();
        word("box");
        n.steps = number(4, 64);
        n.turns = number(0, 20);
        n.angle = number(0, 90);
        word(";");
        do {
            int at = token().at();
            word("tooth");
            if (n.teeth.size() == 12) {
                throw new BadText(4, at);
            }
            int[] tooth = {number(0, 60), 0, number(1, 9), number(10, 999), 0, 99};
            word(";");
            n.teeth.add(tooth);
        } while (token().text().equals("tooth"));
        while (token().text().equals("pin")) {
            word("pin");
            int tune = number(0, 2);
            int tooth = number(0, n.teeth.size() - 1);
            int at = token().at();
            int step = number(0, n.steps - 1);
            if (n.pins[tune][tooth][step]) {
                throw new BadText(3, at);
            }
            n.pins[tune][tooth][step] = true;
            word(";");
        }
        word("");
        return n;
    }

    private interface Command {
        void run();
    }

    private static final class Stop extends RuntimeException {
        private static final long serialVersionUID = 1L;
    }

    private int words;
    private int executed;
    private boolean recording = true;

    int runScript() {
        tokenize();
        code = 0;
        codeAt = -1;
        words = 0;
        executed = 0;
        List<Command> script;
        try {
            script = script(0);
            word("");
        } catch (BadText e) {
            code = e.code;
            codeAt = e.position;
            return -1;
        }
        change();
        recording = false;
        try {
            for (Command command : script) {
                command.run();
            }
        } catch (Stop e) {
            // the execution has ended
        }
        recording = true;
        return executed;
    }

    private void step(Command command) {
        if (executed == 40) {
            throw new Stop();
        }
        try {
            command.run();
        } catch (Refused e) {
            throw new Stop();
        }
        executed++;
    }

    private List<Command> script(int brackets) {
        List<Command> list = new ArrayList<>();
        while (!token().text().equals("") && !token().text().equals(")")) {
            list.add(command(brackets));
            word(";");
        }
        return list;
    }

    private Command command(int brackets) {
        Token t = token();
        if (!List.of("pin", "unpin", "gap", "bend", "mend", "vane", "wind", "tune", "play", "repeat").contains(t.text())) {
            throw new BadText(1, t.at());
        }
        if (++words == 31) {
            throw new BadText(4, t.at());
        }
        next++;
        if (t.text().equals("pin") || t.text().equals("unpin")) {
            int tune = number(0, 2), tooth = number(0, 11), step = number(0, 63);
            return t.text().equals("pin") ? () -> step(() -> addPin(tune, tooth, step)) : () -> step(() -> removePin(tune, tooth, step));
        } else if (t.text().equals("gap")) {
            int tooth = number(0, 11), gap = number(1, 9);
            return () -> step(() -> setGap(tooth, gap));
        } else if (t.text().equals("bend")) {
            int tooth = number(0, 11);
            boolean up = token().text().equals("up");
            word(up ? "up" : "down");
            int amount = number(1, 3);
            return () -> step(() -> bend(tooth, up ? amount : -amount));
        } else if (t.text().equals("mend")) {
            int tooth = number(0, 11);
            return () -> step(() -> replaceTooth(tooth));
        } else if (t.text().equals("vane")) {
            int angle = number(0, 90);
            return () -> step(() -> setVane(angle));
        } else if (t.text().equals("wind")) {
            int turns = number(1, 20);
            return () -> step(() -> wind(turns));
        } else if (t.text().equals("tune")) {
            int tune = number(0, 2);
            return () -> step(() -> selectTune(tune));
        } else if (t.text().equals("play")) {
            int steps = number(1, 300);
            return () -> step(() -> play(steps));
        }
        int times = number(0, 20);
        int at = token().at();
        word("(");
        if (brackets == 2) {
            throw new BadText(4, at);
        }
        List<Command> inner = script(brackets + 1);
        word(")");
        return () -> {
            for (int i = 0; i < times; i++) {
                for (Command command : inner) {
                    command.run();
                }
            }
        };
    }

    int errorCode() {
        return code;
    }

    int errorPosition() {
        return codeAt;
    }

    // ---- checks

    private void exists(boolean... all) {
        for (boolean one : all) {
            if (!one) {
                throw new Refused(1);
            }
        }
    }

    private boolean isTune(int tune) {
        return tune == 0 || tune == 1 || tune == 2;
    }

    private boolean isTooth(int tooth) {
        return tooth >= 0 && tooth < s.teeth.size();
    }

    private boolean isStep(int step) {
        return step >= 0 && step < s.steps;
    }

    private void argument(boolean fine) {
        if (!fine) {
            throw new Refused(2);
        }
    }

    private void state(boolean fine) {
        if (!fine) {
            throw new Refused(3);
        }
    }

    private void change() {
        if (recording) {
            undo.add(s.copy());
            if (undo.size() > 8) {
                undo.remove(0);
            }
        }
    }

    // ---- queries

    int stepCount() {
        return s.steps;
    }

    int selectedTune() {
        return s.selected;
    }

    int position() {
        return s.position;
    }

    int isPin(int tune, int tooth, int step) {
        exists(isTune(tune), isTooth(tooth), isStep(step));
        return s.pins[tune][tooth][step] ? 1 : 0;
    }

    int pinCount(int tune) {
        exists(isTune(tune));
        int n = 0;
        for (boolean[] row : s.pins[tune]) {
            for (boolean pin : row) {
                n += pin ? 1 : 0;
            }
        }
        return n;
    }

    int chord(int tune, int step) {
        exists(isTune(tune), isStep(step));
        int sum = 0;
        for (int t = s.teeth.size() - 1; t >= 0; t--) {
            sum = sum * 2 + (s.pins[tune][t][step] ? 1 : 0);
        }
        return sum;
    }

    int distance(int tune, int tooth, int step) {
        exists(isTune(tune), isTooth(tooth), isStep(step));
        if (!s.pins[tune][tooth][step]) {
            throw new Refused(4);
        }
        int back = 0;
        int at = step;
        do {
            at = (at + s.steps - 1) % s.steps;
            back++;
        } while (!s.pins[tune][tooth][at]);
        return back;
    }

    private boolean close(int tune, int tooth, int step) {
        return s.pins[tune][tooth][step] && distance(tune, tooth, step) < s.teeth.get(tooth)[2];
    }

    int closePins(int tune) {
        exists(isTune(tune));
        int n = 0;
        for (int t = 0; t < s.teeth.size(); t++) {
            for (int p = 0; p < s.steps; p++) {
                n += close(tune, t, p) ? 1 : 0;
            }
        }
        return n;
    }

    int longestRest(int tune) {
        exists(isTune(tune));
        int longest = 0;
        for (int from = 0; from < s.steps; from++) {
            int n = 0;
            while (n < s.steps && chord(tune, (from + n) % s.steps) == 0) {
                n++;
            }
            longest = Math.max(longest, n);
        }
        return longest;
    }

    int toothCount() {
        return s.teeth.size();
    }

    int soundingPitch(int tooth) {
        exists(isTooth(tooth));
        return s.teeth.get(tooth)[0] + s.teeth.get(tooth)[1];
    }

    int bendOf(int tooth) {
        exists(isTooth(tooth));
        return s.teeth.get(tooth)[1];
    }

    int gap(int tooth) {
        exists(isTooth(tooth));
        return s.teeth.get(tooth)[2];
    }

    int wear(int tooth) {
        exists(isTooth(tooth));
        return s.teeth.get(tooth)[4];
    }

    int silence(int tooth) {
        exists(isTooth(tooth));
        return s.teeth.get(tooth)[5];
    }

    int isBroken(int tooth) {
        exists(isTooth(tooth));
        return s.teeth.get(tooth)[4] >= s.teeth.get(tooth)[3] ? 1 : 0;
    }

    int nextSound(int tooth) {
        exists(isTooth(tooth));
        int[] t = s.teeth.get(tooth);
        return !s.pins[s.selected][tooth][s.position] ? 0 : isBroken(tooth) == 1 ? 1 : t[5] >= t[2] ? 2 : 3;
    }

    int turnsLeft() {
        return s.turns;
    }

    int vane() {
        return s.angle;
    }

    int tempo() {
        return (int) Math.floor((60.0 + 4.0 * s.turns) * (100.0 - s.angle) / 100.0);
    }

    long secondsPerStepBits() {
        return Double.doubleToLongBits(60.0 / tempo());
    }

    int noteCount() {
        return s.notes;
    }

    int squeakCount() {
        return s.squeaks;
    }

    int stepsPlayed() {
        return s.played;
    }

    int brokenTeeth() {
        int n = 0;
        for (int t = 0; t < s.teeth.size(); t++) {
            n += isBroken(t);
        }
        return n;
    }

    long meanPitchBits(int tune) {
        exists(isTune(tune));
        int sum = 0;
        for (int t = 0; t < s.teeth.size(); t++) {
            for (int p = 0; p < s.steps; p++) {
                sum += s.pins[tune][t][p] ? soundingPitch(t) : 0;
            }
        }
        return Double.doubleToLongBits(pinCount(tune) == 0 ? 0.0 : (double) sum / (double) pinCount(tune));
    }

    int densityBits(int tune) {
        exists(isTune(tune));
        return Float.floatToIntBits((float) pinCount(tune) / (float) (s.steps * s.teeth.size()));
    }

    int stepsLeft() {
        return s.turns == 0 ? 0 : s.turns * s.steps - s.position;
    }

    int stepsUntilBroken(int tooth) {
        exists(isTooth(tooth));
        State kept = s;
        s = s.copy();
        int n = 0;
        while (isBroken(tooth) == 0 && s.turns > 0) {
            playOne();
            n++;
        }
        int answer = isBroken(tooth) == 1 ? n : -1;
        s = kept;
        return answer;
    }

    int soundsIn(int steps, boolean notes) {
        argument(steps >= 0 && steps <= 300);
        State kept = s;
        s = s.copy();
        for (int i = 0; i < steps && s.turns > 0; i++) {
            playOne();
        }
        int answer = notes ? s.notes - kept.notes : s.squeaks - kept.squeaks;
        s = kept;
        return answer;
    }

    // ---- changes

    int addPin(int tune, int tooth, int step) {
        exists(isTune(tune), isTooth(tooth), isStep(step));
        state(!s.pins[tune][tooth][step]);
        change();
        s.pins[tune][tooth][step] = true;
        return pinCount(tune);
    }

    int removePin(int tune, int tooth, int step) {
        exists(isTune(tune), isTooth(tooth), isStep(step));
        state(s.pins[tune][tooth][step]);
        change();
        s.pins[tune][tooth][step] = false;
        return pinCount(tune);
    }

    int shift(int tune, int steps) {
        exists(isTune(tune));
        argument(steps >= 0 && steps <= 63);
        change();
        boolean[][] moved = new boolean[12][64];
        for (int t = 0; t < 12; t++) {
            for (int p = 0; p < s.steps; p++) {
                moved[t][(p + steps) % s.steps] = s.pins[tune][t][p];
            }
        }
        s.pins[tune] = moved;
        return pinCount(tune);
    }

    int transpose(int tune, int teeth) {
        exists(isTune(tune));
        argument(teeth >= -11 && teeth <= 11);
        boolean[][] moved = new boolean[12][64];
        for (int t = 0; t < 12; t++) {
            for (int p = 0; p < s.steps; p++) {
                if (s.pins[tune][t][p]) {
                    state(isTooth(t + teeth));
                    moved[t + teeth][p] = true;
                }
            }
        }
        change();
        s.pins[tune] = moved;
        return pinCount(tune);
    }

    int copyTune(int source, int target) {
        exists(isTune(source), isTune(target));
        argument(source != target);
        change();
        for (int t = 0; t < 12; t++) {
            s.pins[target][t] = s.pins[source][t].clone();
        }
        return pinCount(target);
    }

    int selectTune(int tune) {
        exists(isTune(tune));
        change();
        int before = s.selected;
        s.selected = tune;
        return before;
    }

    int setGap(int tooth, int gap) {
        exists(isTooth(tooth));
        argument(gap >= 1 && gap <= 9);
        change();
        int before = s.teeth.get(tooth)[2];
        s.teeth.get(tooth)[2] = gap;
        return before;
    }

    int bend(int tooth, int amount) {
        exists(isTooth(tooth));
        argument(amount != 0 && amount >= -3 && amount <= 3);
        state(isBroken(tooth) == 0 && Math.abs(bendOf(tooth) + amount) <= 3);
        change();
        s.teeth.get(tooth)[1] += amount;
        s.teeth.get(tooth)[4] += 3;
        return bendOf(tooth);
    }

    int replaceTooth(int tooth) {
        exists(isTooth(tooth));
        change();
        int before = wear(tooth);
        s.teeth.get(tooth)[1] = 0;
        s.teeth.get(tooth)[4] = 0;
        s.teeth.get(tooth)[5] = 99;
        return before;
    }

    int setVane(int angle) {
        argument(angle >= 0 && angle <= 90);
        change();
        int before = s.angle;
        s.angle = angle;
        return before;
    }

    int wind(int turns) {
        argument(turns >= 1 && turns <= 20);
        state(s.turns + turns <= 20);
        change();
        return s.turns += turns;
    }

    int play(int steps) {
        argument(steps >= 1 && steps <= 300);
        state(s.turns != 0);
        change();
        int n = 0;
        while (n < steps && s.turns > 0) {
            playOne();
            n++;
        }
        return n;
    }

    private void playOne() {
        for (int t = 0; t < s.teeth.size(); t++) {
            int[] tooth = s.teeth.get(t);
            if (s.pins[s.selected][t][s.position] && tooth[4] < tooth[3]) {
                if (tooth[5] >= tooth[2]) {
                    s.notes++;
                    tooth[4] += 1;
                } else {
                    s.squeaks++;
                    tooth[4] += 5;
                }
                tooth[5] = 0;
            }
        }
        for (int[] tooth : s.teeth) {
            if (tooth[5] < 99) {
                tooth[5]++;
            }
        }
        s.position++;
        if (s.position == s.steps) {
            s.position = 0;
            s.turns--;
        }
        s.played++;
    }

    // ---- output, undo and slots

    int writePins(int tune, int tooth) {
        exists(isTune(tune), isTooth(tooth));
        output = "";
        for (int p = 0; p < s.steps; p++) {
            output += close(tune, tooth, p) ? "!" : s.pins[tune][tooth][p] ? "#" : "-";
        }
        return output.length();
    }

    int writeComb() {
        List<String> parts = new ArrayList<>();
        for (int t = 0; t < s.teeth.size(); t++) {
            parts.add(isBroken(t) == 1 ? "x" : String.valueOf(soundingPitch(t)));
        }
        output = String.join(" ", parts);
        return output.length();
    }

    int outputByte(int index) {
        return index >= 0 && index < output.length() ? output.charAt(index) : -1;
    }

    int undoCount() {
        return undo.size();
    }

    int undo() {
        state(!undo.isEmpty());
        s = undo.remove(undo.size() - 1);
        return undo.size();
    }

    int save(int slot) {
        exists(slot == 0 || slot == 1);
        slots[slot] = s.copy();
        return s.position;
    }

    int restore(int slot) {
        exists(slot == 0 || slot == 1);
        if (slots[slot] == null) {
            throw new Refused(4);
        }
        s = slots[slot].copy();
        undo.clear();
        return s.position;
    }
}
