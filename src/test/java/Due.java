/** What every test uses: it prints each answer that is not the one that is due, and counts them. */
final class Due {
    private static final int BYTES_A_CALL = 20;

    private int wrong;
    private int asked;
    private String sentence = "";

    interface Call {
        void run();
    }

    /** What is asked from here on is about this sentence of the document, or this part of one. */
    void about(String newSentence) {
        sentence = "\"" + newSentence + "\": ";
    }

    private void tell(boolean fine, String what) {
        asked++;
        if (!fine) {
            wrong++;
            System.out.println(sentence + what);
        }
    }

    void same(String what, long got, long want) {
        tell(got == want, what + " answered " + got + ", due is " + want);
    }

    void same(String what, double got, double want) {
        tell(Double.doubleToLongBits(got) == Double.doubleToLongBits(want),
                what + " answered " + got + ", due is " + want);
    }

    void same(String what, boolean got, boolean want) {
        same(what, got ? 1L : 0L, want ? 1L : 0L);
    }

    void same(String what, String got, String want) {
        tell(got.equals(want), what + " answered \"" + got + "\", due is \"" + want + "\"");
    }

    /** The call must throw just this class, not one above or below it. */
    void thrown(String what, Class<? extends RuntimeException> want, Call call) {
        Class<?> got = null;
        try {
            call.run();
        } catch (RuntimeException e) {
            got = e.getClass();
        }
        tell(got == want, what + " threw " + (got == null ? "nothing" : got.getSimpleName())
                + ", due is " + want.getSimpleName());
    }

    void noSuch(String what, Call call) {
        thrown(what, IndexOutOfBoundsException.class, call);
    }

    void badArgument(String what, Call call) {
        thrown(what, IllegalArgumentException.class, call);
    }

    void badState(String what, Call call) {
        thrown(what, IllegalStateException.class, call);
    }

    void noElement(String what, Call call) {
        thrown(what, java.util.NoSuchElementException.class, call);
    }

    /** Appends a text of characters 1 to 255. */
    static void write(MusicBoxEditor x, String text) {
        for (int from = 0; from < text.length(); from += BYTES_A_CALL) {
            x.append(word(text, from), word(text, from + 4), word(text, from + 8), word(text, from + 12),
                    word(text, from + 16));
        }
    }

    private static int word(String text, int from) {
        int word = 0;
        for (int i = from; i < from + 4; i++) {
            word = word << 8 | (i < text.length() ? text.charAt(i) : 0);
        }
        return word;
    }

    static MusicBoxEditor box(String setup) {
        MusicBoxEditor x = new MusicBoxEditor();
        write(x, setup);
        if (x.load() != 0) {
            throw new AssertionError("the setup of a test has an error at " + x.errorPosition() + ": " + setup);
        }
        return x;
    }

    static int script(MusicBoxEditor x, String script) {
        write(x, script);
        return x.runScript();
    }

    static String output(MusicBoxEditor x) {
        StringBuilder output = new StringBuilder();
        int next = x.outputByte(0);
        while (next != MusicBoxEditor.NONE && output.length() < 100) {
            output.append((char) next);
            next = x.outputByte(output.length());
        }
        return output.toString();
    }

    static String pins(MusicBoxEditor x, int tune, int tooth) {
        StringBuilder pins = new StringBuilder();
        for (int step = 0; step < x.stepCount(); step++) {
            pins.append(x.isPin(tune, tooth, step) ? '#' : '-');
        }
        return pins.toString();
    }

    /**
     * Every answer that undo, save and restore are about, in one text. It asks 13 times, eight times for a
     * tooth and three times for a step: an object answers 512 calls in all.
     */
    static String state(MusicBoxEditor x) {
        int steps = x.stepCount();
        int teeth = x.toothCount();
        StringBuilder state = new StringBuilder();
        state.append("steps ").append(steps).append(" tune ").append(x.selectedTune());
        state.append(" at ").append(x.position()).append(" turns ").append(x.turnsLeft());
        state.append(" vane ").append(x.vane()).append(" tempo ").append(x.tempo());
        state.append(" notes ").append(x.noteCount()).append(" squeaks ").append(x.squeakCount());
        state.append(" played ").append(x.stepsPlayed()).append(" broken ").append(x.brokenTeeth());
        state.append(" contradictions ").append(x.contradictions()).append(" left ").append(x.stepsLeft());
        for (int tooth = 0; tooth < teeth; tooth++) {
            state.append("\n tooth ").append(x.soundingPitch(tooth)).append(' ').append(x.bendOf(tooth));
            state.append(' ').append(x.gap(tooth)).append(' ').append(x.wear(tooth)).append(' ');
            state.append(x.silence(tooth)).append(' ').append(x.isBroken(tooth)).append(' ');
            state.append(x.nextSound(tooth)).append(' ').append(x.stepsUntilBroken(tooth));
        }
        for (int tune = 0; tune < 3; tune++) {
            state.append("\n tune");
            for (int step = 0; step < steps; step++) {
                state.append(' ').append(x.chord(tune, step));
            }
        }
        return state.toString();
    }

    /**
     * All that can be seen of an object, the changes that can be undone and the slots too; it uses the
     * object up. Two objects with the same answers behave alike from here on.
     */
    static String world(MusicBoxEditor x) {
        StringBuilder world = new StringBuilder(state(x));
        world.append("\n error ").append(x.errorCode()).append(" at ").append(x.errorPosition());
        world.append("\n output ").append(output(x));
        world.append("\n text of ").append(x.append(0, 0, 0, 0, 0));
        int undos = x.undoCount();
        for (int i = 0; i < undos; i++) {
            world.append("\n undo to ").append(x.undo()).append(": ").append(state(x));
        }
        for (int slot = 0; slot < 2; slot++) {
            world.append("\n slot ").append(slot).append(": ");
            try {
                world.append(x.restore(slot)).append(state(x));
            } catch (java.util.NoSuchElementException e) {
                world.append("empty");
            }
        }
        world.append("\n the text runs ").append(x.runScript()).append(' ').append(x.errorPosition());
        world.append(" and leaves ").append(x.vane());
        return world.toString();
    }

    static String times(int times, String part) {
        StringBuilder all = new StringBuilder();
        for (int i = 0; i < times; i++) {
            all.append(part);
        }
        return all.toString();
    }

    void end() {
        System.out.println(asked + " answers asked, " + wrong + " not as due");
        if (wrong != 0) {
            System.exit(1);
        }
    }
}
