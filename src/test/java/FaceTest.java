import java.lang.reflect.Constructor;
import java.lang.reflect.Field;
import java.lang.reflect.Member;
import java.lang.reflect.Method;
import java.lang.reflect.Modifier;
import java.util.ArrayList;
import java.util.List;

/** The public face: each constant, the constructor and each method with its exceptions, and nothing beside them. */
public final class FaceTest {
    private static final Due due = new Due();

    private static final String[] CONSTANTS = {"NONE -1", "SYNTAX 1", "OUT_OF_RANGE 2", "PIN_TWICE 3", "TOO_MANY 4",
        "REST 0", "BROKEN 1", "NOTE 2", "SQUEAK 3"};

    private static final String[] METHODS = {
        "int append(int,int,int,int,int) throws IllegalStateException",
        "int truncate(int) throws IllegalArgumentException",
        "int load()",
        "int runScript()",
        "int errorCode()",
        "int errorPosition()",
        "int stepCount()",
        "int selectedTune()",
        "int position()",
        "boolean isPin(int,int,int) throws IndexOutOfBoundsException",
        "int pinCount(int) throws IndexOutOfBoundsException",
        "int chord(int,int) throws IndexOutOfBoundsException",
        "int distance(int,int,int) throws IndexOutOfBoundsException,NoSuchElementException",
        "int closePins(int) throws IndexOutOfBoundsException",
        "int longestRest(int) throws IndexOutOfBoundsException",
        "int toothCount()",
        "int soundingPitch(int) throws IndexOutOfBoundsException",
        "int bendOf(int) throws IndexOutOfBoundsException",
        "int gap(int) throws IndexOutOfBoundsException",
        "int wear(int) throws IndexOutOfBoundsException",
        "int silence(int) throws IndexOutOfBoundsException",
        "boolean isBroken(int) throws IndexOutOfBoundsException",
        "int nextSound(int) throws IndexOutOfBoundsException",
        "int turnsLeft()",
        "int vane()",
        "int tempo()",
        "double secondsPerStep()",
        "long secondsPerStepBits()",
        "int noteCount()",
        "int squeakCount()",
        "int stepsPlayed()",
        "int brokenTeeth()",
        "double meanPitch(int) throws IndexOutOfBoundsException",
        "float density(int) throws IndexOutOfBoundsException",
        "int contradictions()",
        "int stepsLeft()",
        "int stepsUntilBroken(int) throws IndexOutOfBoundsException",
        "int notesIn(int) throws IllegalArgumentException",
        "int squeaksIn(int) throws IllegalArgumentException",
        "int addPin(int,int,int) throws IndexOutOfBoundsException,IllegalStateException",
        "int removePin(int,int,int) throws IndexOutOfBoundsException,IllegalStateException",
        "int shift(int,int) throws IndexOutOfBoundsException,IllegalArgumentException",
        "int transpose(int,int) throws IndexOutOfBoundsException,IllegalArgumentException,IllegalStateException",
        "int copyTune(int,int) throws IndexOutOfBoundsException,IllegalArgumentException",
        "int selectTune(int) throws IndexOutOfBoundsException",
        "int setGap(int,int) throws IndexOutOfBoundsException,IllegalArgumentException",
        "int bend(int,int) throws IndexOutOfBoundsException,IllegalArgumentException,IllegalStateException",
        "int replaceTooth(int) throws IndexOutOfBoundsException",
        "int setVane(int) throws IllegalArgumentException",
        "int wind(int) throws IllegalArgumentException,IllegalStateException",
        "int play(int) throws IllegalArgumentException,IllegalStateException",
        "int writePins(int,int) throws IndexOutOfBoundsException",
        "int writeComb()",
        "int outputByte(int)",
        "int undoCount()",
        "int undo() throws IllegalStateException",
        "int save(int) throws IndexOutOfBoundsException",
        "int restore(int) throws IndexOutOfBoundsException,NoSuchElementException"
    };

    public static void main(String[] args) throws IllegalAccessException {
        due.about("The public face");
        classItself();
        constants();
        constructor();
        methods();
        nothingElse();
        due.end();
    }

    private static String inOrder(List<String> rows) {
        List<String> sorted = new ArrayList<>(rows);
        sorted.sort(null);
        return String.join("\n", sorted);
    }

    private static void classItself() {
        int modifiers = MusicBoxEditor.class.getModifiers();
        due.same("the class is public", Modifier.isPublic(modifiers), true);
        due.same("the class is final", Modifier.isFinal(modifiers), true);
        due.same("the class has a package", MusicBoxEditor.class.getPackageName(), "");
    }

    private static void constants() throws IllegalAccessException {
        List<String> got = new ArrayList<>();
        for (Field field : MusicBoxEditor.class.getDeclaredFields()) {
            if (Modifier.isPublic(field.getModifiers())) {
                due.same(field.getName() + " is static and final",
                        Modifier.isStatic(field.getModifiers()) && Modifier.isFinal(field.getModifiers()), true);
                due.same(field.getName() + " is an int", field.getType() == int.class, true);
                got.add(field.getName() + " " + field.getInt(null));
            }
        }
        due.same("the constants", inOrder(got), inOrder(List.of(CONSTANTS)));
    }

    private static void constructor() {
        Constructor<?>[] all = MusicBoxEditor.class.getDeclaredConstructors();
        due.same("constructors", all.length, 1);
        due.same("parameters", all[0].getParameterCount(), 0);
        due.same("exceptions", all[0].getExceptionTypes().length, 0);
        due.same("is public", Modifier.isPublic(all[0].getModifiers()), true);
    }

    private static String names(Class<?>[] classes) {
        List<String> names = new ArrayList<>();
        for (Class<?> one : classes) {
            names.add(one.getSimpleName());
        }
        return String.join(",", names);
    }

    private static void methods() {
        List<String> got = new ArrayList<>();
        for (Method method : MusicBoxEditor.class.getDeclaredMethods()) {
            if (Modifier.isPublic(method.getModifiers())) {
                due.same(method.getName() + " is static", Modifier.isStatic(method.getModifiers()), false);
                String exceptions = names(method.getExceptionTypes());
                got.add(method.getReturnType().getSimpleName() + " " + method.getName() + "("
                        + names(method.getParameterTypes()) + ")" + (exceptions.isEmpty() ? "" : " throws " + exceptions));
            }
        }
        due.same("the methods", inOrder(got), inOrder(List.of(METHODS)));
    }

    /** No other member can be seen from outside, and no private method has the name of a public one. */
    private static void nothingElse() {
        List<Member> members = new ArrayList<>(List.of(MusicBoxEditor.class.getDeclaredFields()));
        members.addAll(List.of(MusicBoxEditor.class.getDeclaredMethods()));
        for (Member member : members) {
            int modifiers = member.getModifiers();
            due.same(member.getName() + " is public or private", Modifier.isPublic(modifiers) || Modifier.isPrivate(modifiers), true);
        }
        for (Method hidden : MusicBoxEditor.class.getDeclaredMethods()) {
            for (Method shown : MusicBoxEditor.class.getDeclaredMethods()) {
                boolean sameName = hidden.getName().equals(shown.getName());
                due.same(hidden.getName() + " twice", sameName && !hidden.equals(shown), false);
            }
        }
        for (Class<?> inside : MusicBoxEditor.class.getDeclaredClasses()) {
            due.same(inside.getSimpleName() + " is public", Modifier.isPublic(inside.getModifiers()), false);
            due.same(inside.getSimpleName() + " is static", Modifier.isStatic(inside.getModifiers()), true);
        }
    }
}
