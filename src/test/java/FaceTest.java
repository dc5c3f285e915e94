import java.lang.reflect.Constructor;
import java.lang.reflect.Field;
import java.lang.reflect.Method;
import java.lang.reflect.Modifier;
import java.util.Arrays;
import java.util.TreeSet;

/** The face is the document's, and has no other member that is not private. */
public final class FaceTest {
    private static final String[] DUE = {
        "public static final int NONE",
        "public StateKeeper(int)",
        "public int StateKeeper.back(int) throws IndexOutOfBoundsException",
        "public float StateKeeper.cell(int) throws IndexOutOfBoundsException",
        "public int StateKeeper.count(int) throws IndexOutOfBoundsException",
        "public int StateKeeper.differs(int) throws IndexOutOfBoundsException",
        "public int StateKeeper.drift(int,int,float) throws IndexOutOfBoundsException,"
            + "IllegalArgumentException,IllegalStateException",
        "public int StateKeeper.every(int) throws IllegalArgumentException",
        "public int StateKeeper.forget(int) throws IllegalArgumentException",
        "public int StateKeeper.input(int,int,float) throws IndexOutOfBoundsException,"
            + "IllegalArgumentException,IllegalStateException",
        "public int StateKeeper.inputs(int,int,int,int,float) throws IndexOutOfBoundsException,"
            + "IllegalArgumentException,IllegalStateException",
        "public int StateKeeper.keep()",
        "public float StateKeeper.kept(int,int) throws IndexOutOfBoundsException",
        "public int StateKeeper.late(int,int,int,float) throws IndexOutOfBoundsException,"
            + "IllegalArgumentException,IllegalStateException",
        "public int StateKeeper.record(int,int,int) throws IndexOutOfBoundsException",
        "public float StateKeeper.recorded(int,int) throws IndexOutOfBoundsException",
        "public int StateKeeper.snapshot(int) throws IndexOutOfBoundsException",
        "public int StateKeeper.step(int) throws IllegalArgumentException",
        "public float StateKeeper.sum()",
    };

    public static void main(String[] args) {
        Check.due("NONE", -1, StateKeeper.NONE);
        Check.due("the class", "public final", Modifier.toString(StateKeeper.class.getModifiers()));
        TreeSet<String> got = new TreeSet<>();
        for (Field f : StateKeeper.class.getDeclaredFields()) {
            addUnlessPrivate(got, f.getModifiers(), Modifier.toString(f.getModifiers()) + " "
                    + f.getType().getName() + " " + f.getName());
        }
        for (Constructor<?> c : StateKeeper.class.getDeclaredConstructors()) {
            addUnlessPrivate(got, c.getModifiers(), c.toString());
        }
        TreeSet<String> names = new TreeSet<>();
        for (Method m : StateKeeper.class.getDeclaredMethods()) {
            addUnlessPrivate(got, m.getModifiers(), m.toString());
            if (!names.add(m.getName())) {
                Check.report("two methods bear the name " + m.getName());
            }
        }
        for (Class<?> inside : StateKeeper.class.getDeclaredClasses()) {
            classInside(inside, names);
        }
        Check.due("the face", new TreeSet<>(Arrays.asList(DUE)).toString(), got.toString());
        Check.end();
    }

    private static void classInside(Class<?> inside, TreeSet<String> names) {
        int modifiers = inside.getModifiers();
        if (!Modifier.isStatic(modifiers) || Modifier.isPublic(modifiers)
                || Modifier.isProtected(modifiers)) {
            Check.report(inside.getName() + " is not static and private or package-visible");
        }
        for (Method m : inside.getDeclaredMethods()) {
            if (names.contains(m.getName())) {
                Check.report(inside.getName() + " has a method with an outer one's name: " + m.getName());
            }
        }
    }

    private static void addUnlessPrivate(TreeSet<String> got, int modifiers, String text) {
        if (!Modifier.isPrivate(modifiers)) {
            got.add(text.replace("java.lang.", ""));
        }
    }
}
