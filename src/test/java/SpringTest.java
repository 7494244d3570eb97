/** Promises 25 to 29 and 50 to 52: the spring, the vane, and playing. */
public final class SpringTest {
    private static final Due due = new Due();

    public static void main(String[] args) {
        tempo();
        everyTempo();
        setVane();
        wind();
        play();
        due.end();
    }

    private static void tempo() {
        MusicBoxEditor x = new MusicBoxEditor();
        due.same("turnsLeft", x.turnsLeft(), 5);
        due.same("vane", x.vane(), 40);
        due.same("tempo", x.tempo(), 48);
        due.same("secondsPerStep", x.secondsPerStep(), 1.25);
        due.same("secondsPerStepBits", x.secondsPerStepBits(), 0x3ff4000000000000L);
        x.setVane(41);
        due.same("rounded down from 47.2", x.tempo(), 47);
        x.setVane(90);
        due.same("tempo", x.tempo(), 8);
        x.wind(15);
        due.same("tempo", x.tempo(), 14);
        x.setVane(0);
        due.same("the fastest", x.tempo(), 140);
        due.same("60 / 140", x.secondsPerStep(), 60.0 / 140.0);
        due.same("slowest", Due.box("box 4 0 90;tooth 0 1 10;").tempo(), 6);
    }

    private static void everyTempo() {
        for (int turns = 0; turns <= 20; turns++) {
            MusicBoxEditor x = Due.box("box 4 " + turns + " 0;tooth 0 1 10;");
            for (int angle = 0; angle <= 90; angle++) {
                x.setVane(angle);
                int want = (60 + 4 * turns) * (100 - angle) / 100;
                due.same("tempo", x.tempo(), want);
                due.same("seconds at " + want, x.secondsPerStep(), 60.0 / want);
                due.same("bits at " + want, x.secondsPerStepBits(), Double.doubleToLongBits(60.0 / want));
            }
        }
    }

    private static void setVane() {
        MusicBoxEditor x = new MusicBoxEditor();
        due.same("setVane(0)", x.setVane(0), 40);
        due.same("setVane(90)", x.setVane(90), 0);
        due.same("setVane(90) again", x.setVane(90), 90);
        due.same("vane", x.vane(), 90);
        due.same("changes", x.undoCount(), 3);
        due.badArgument("setVane(-1)", () -> x.setVane(-1));
        due.badArgument("setVane(91)", () -> x.setVane(91));
        due.badArgument("setVane(max)", () -> x.setVane(Integer.MAX_VALUE));
        due.badArgument("setVane(min)", () -> x.setVane(Integer.MIN_VALUE));
        due.same("vane", x.vane(), 90);
        due.same("changes", x.undoCount(), 3);
    }

    private static void wind() {
        MusicBoxEditor x = new MusicBoxEditor();
        due.same("wind(1)", x.wind(1), 6);
        due.badState("wind(15)", () -> x.wind(15));
        due.badState("wind(20)", () -> x.wind(20));
        due.same("turns", x.turnsLeft(), 6);
        due.same("wind(14)", x.wind(14), 20);
        due.badState("wind(1)", () -> x.wind(1));
        due.badArgument("wind(0)", () -> x.wind(0));
        due.badArgument("wind(21)", () -> x.wind(21));
        due.badArgument("wind(-1)", () -> x.wind(-1));
        due.badArgument("wind(max)", () -> x.wind(Integer.MAX_VALUE));
        due.same("changes", x.undoCount(), 2);
        due.same("wind(20)", Due.box("box 4 0 90;tooth 0 1 10;").wind(20), 20);
    }

    private static void play() {
        MusicBoxEditor x = new MusicBoxEditor();
        due.badArgument("play(0)", () -> x.play(0));
        due.badArgument("play(301)", () -> x.play(301));
        due.badArgument("play(-5)", () -> x.play(-5));
        due.badArgument("play(max)", () -> x.play(Integer.MAX_VALUE));
        due.same("no change", x.undoCount(), 0);
        due.same("play(7)", x.play(7), 7);
        due.same("turns", x.turnsLeft(), 5);
        due.same("play(1)", x.play(1), 1);
        due.same("the turn is over", x.turnsLeft(), 4);
        due.same("position", x.position(), 0);
        due.same("play(300)", x.play(300), 32);
        due.same("turns", x.turnsLeft(), 0);
        due.same("position", x.position(), 0);
        due.same("played", x.stepsPlayed(), 40);
        due.badState("play(1) without turns", () -> x.play(1));
        due.badArgument("play(301) without turns", () -> x.play(301));
        due.same("changes", x.undoCount(), 3);
        due.same("wind(20)", x.wind(20), 20);
        due.same("play(160)", x.play(160), 160);
        due.same("turns", x.turnsLeft(), 0);
        due.same("play(300) of a long roll", Due.box("box 64 20 0;tooth 0 1 10;").play(300), 300);
    }
}
