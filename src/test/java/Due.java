/** What every test uses: it prints each answer that is not the one that is due, and counts them. */
final class Due {
    private static final int BYTES_A_CALL = 20;

    private int wrong;
    private int asked;

    interface Call {
        void run();
    }

    void same(String what, long got, long want) {
        asked++;
        if (got != want) {
            wrong++;
            System.out.println(what + " answered " + got + ", due is " + want);
        }
    }

    void same(String what, double got, double want) {
        asked++;
        if (Double.doubleToLongBits(got) != Double.doubleToLongBits(want)) {
            wrong++;
            System.out.println(what + " answered " + got + ", due is " + want);
        }
    }

    void same(String what, boolean got, boolean want) {
        same(what, got ? 1L : 0L, want ? 1L : 0L);
    }

    void same(String what, String got, String want) {
        asked++;
        if (!got.equals(want)) {
            wrong++;
            System.out.println(what + " answered \"" + got + "\", due is \"" + want + "\"");
        }
    }

    /** The call must throw just this class, not one above or below it. */
    void thrown(String what, Class<? extends RuntimeException> want, Call call) {
        asked++;
        Class<?> got = null;
        try {
            call.run();
        } catch (RuntimeException e) {
            got = e.getClass();
        }
        if (got != want) {
            wrong++;
            System.out.println(what + " threw " + (got == null ? "nothing" : got.getSimpleName())
                    + ", due is " + want.getSimpleName());
        }
    }

    void noSuch(String what, Call call) {
        thrown(what, IndexOutOfBoundsException.class, call);
    }

    void badArgument(String what, Call call) {
        thrown(what, IllegalArgumentException.class, call);
    }

    void badState(String what, Call call) {
        thrown(what, IllegalStateException.class, call);
    }

    void noElement(String what, Call call) {
        thrown(what, java.util.NoSuchElementException.class, call);
    }

    /** Appends a text of characters 1 to 255. */
    static void write(MusicBoxEditor x, String text) {
        for (int from = 0; from < text.length(); from += BYTES_A_CALL) {
            x.append(word(text, from), word(text, from + 4), word(text, from + 8), word(text, from + 12),
                    word(text, from + 16));
        }
    }

    private static int word(String text, int from) {
        int word = 0;
        for (int i = from; i < from + 4; i++) {
            word = word << 8 | (i < text.length() ? text.charAt(i) : 0);
        }
        return word;
    }

    static MusicBoxEditor box(String setup) {
        MusicBoxEditor x = new MusicBoxEditor();
        write(x, setup);
        if (x.load() != 0) {
            throw new AssertionError("the setup of a test has an error at " + x.errorPosition() + ": " + setup);
        }
        return x;
    }

    static int script(MusicBoxEditor x, String script) {
        write(x, script);
        return x.runScript();
    }

    static String output(MusicBoxEditor x) {
        StringBuilder output = new StringBuilder();
        for (int i = 0; x.outputByte(i) != MusicBoxEditor.NONE; i++) {
            output.append((char) x.outputByte(i));
        }
        return output.toString();
    }

    static String pins(MusicBoxEditor x, int tune, int tooth) {
        StringBuilder pins = new StringBuilder();
        for (int step = 0; step < x.stepCount(); step++) {
            pins.append(x.isPin(tune, tooth, step) ? '#' : '-');
        }
        return pins.toString();
    }

    /** Every answer that undo, save and restore are about, in one text. */
    static String state(MusicBoxEditor x) {
        StringBuilder state = new StringBuilder();
        state.append("steps ").append(x.stepCount()).append(" tune ").append(x.selectedTune());
        state.append(" at ").append(x.position()).append(" turns ").append(x.turnsLeft());
        state.append(" vane ").append(x.vane()).append(" tempo ").append(x.tempo());
        state.append(" notes ").append(x.noteCount()).append(" squeaks ").append(x.squeakCount());
        state.append(" played ").append(x.stepsPlayed()).append(" broken ").append(x.brokenTeeth());
        state.append(" contradictions ").append(x.contradictions()).append(" left ").append(x.stepsLeft());
        for (int tooth = 0; tooth < x.toothCount(); tooth++) {
            state.append("\n tooth ").append(x.soundingPitch(tooth)).append(' ').append(x.bendOf(tooth));
            state.append(' ').append(x.gap(tooth)).append(' ').append(x.wear(tooth)).append(' ');
            state.append(x.silence(tooth)).append(' ').append(x.isBroken(tooth)).append(' ');
            state.append(x.nextSound(tooth)).append(' ').append(x.stepsUntilBroken(tooth));
            for (int tune = 0; tune < 3; tune++) {
                state.append(' ').append(pins(x, tune, tooth));
            }
        }
        return state.toString();
    }

    void end() {
        System.out.println(asked + " answers asked, " + wrong + " not as due");
        if (wrong != 0) {
            System.exit(1);
        }
    }
}
