import java.lang.reflect.Constructor;
import java.lang.reflect.Field;
import java.lang.reflect.Method;
import java.lang.reflect.Modifier;
import java.util.Set;
import java.util.TreeSet;

/** The face is the document's and no more; promise 1: what a new object answers. */
public final class FaceTest {
    private static final Set<String> FIELDS = new TreeSet<>(Set.of(
            "public static final int BAD", "public static final int STATE",
            "public static final int FULL", "public static final int NONE"));
    private static final Set<String> METHODS = new TreeSet<>(Set.of(
            "public int weather(int,int,int)", "public int loses(int)", "public int known(int,int)",
            "public int fluid(int,int,int,int,int,int,int,int)", "public int hold(int,int)",
            "public int fill(int,int)", "public int set(int,int)", "public int jet(int,int,int,int)",
            "public int minutes(int)", "public int about(int,int)", "public int on(int)",
            "public int litres(int)", "public int plan(int,int)", "public int count(int)",
            "public long trace()"));

    public static void main(String[] args) {
        constants();
        onlyTheFaceIsVisible();
        promise1NewObject();
        objectsShareNothing();
        Checks.finish();
    }

    private static void constants() {
        Checks.due("BAD", IcePads.BAD, -100);
        Checks.due("STATE", IcePads.STATE, -200);
        Checks.due("FULL", IcePads.FULL, -300);
        Checks.due("NONE", IcePads.NONE, -900);
    }

    private static void onlyTheFaceIsVisible() {
        Set<String> fields = new TreeSet<>();
        for (Field field : IcePads.class.getDeclaredFields()) {
            if (isOpen(field.getModifiers(), field.isSynthetic())) fields.add(told(field));
        }
        Checks.due("the visible fields", fields.toString(), FIELDS.toString());

        Set<String> methods = new TreeSet<>();
        for (Method method : IcePads.class.getDeclaredMethods()) {
            if (isOpen(method.getModifiers(), method.isSynthetic())) methods.add(told(method));
        }
        Checks.due("the visible methods", methods.toString(), METHODS.toString());

        Constructor<?>[] constructors = IcePads.class.getDeclaredConstructors();
        Checks.due("the constructors", constructors.length, 1);
        Checks.due("the constructor", constructors[0].toString(), "public IcePads()");
        Checks.due("the class", Modifier.toString(IcePads.class.getModifiers()), "public final");
    }

    /** A member's own line of the document's face, but for the names of its parameters. */
    private static String told(Object member) {
        return member.toString().replace("IcePads.", "");
    }

    private static boolean isOpen(int modifiers, boolean synthetic) {
        return !synthetic && !Modifier.isPrivate(modifiers);
    }

    private static void promise1NewObject() {
        IcePads pads = new IcePads();
        Checks.due("counts of a new object", Checks.counts(pads), "0 0 1 0 0 0 0 0 0 0");
        Checks.due("plan of a new object", Checks.plan(pads), "0: = 0");
        Checks.due("trace of a new object", pads.trace(), 0);
        Checks.due("on(0)", pads.on(0), IcePads.NONE);
        Checks.due("on(1)", pads.on(1), IcePads.BAD);
        Checks.due("litres(0)", pads.litres(0), IcePads.BAD);
        Checks.due("about(0, 0)", pads.about(0, 0), IcePads.BAD);
        for (int minute = 0; minute < 300; minute += 23) Checks.due("told " + minute, pads.known(minute, 2), 0);
        Checks.due("pads at first", pads.set(0, 1), 1);
        Checks.due("limit at first", pads.set(1, 10), 200);
        Checks.due("rate at first", pads.set(2, 0), 5);
    }

    private static void objectsShareNothing() {
        IcePads one = new IcePads();
        one.weather(3, -20, 2);
        one.fluid(0, 9, 9, 9, 9, 1, 1, 100);
        one.jet(1, 0, 1, 0);
        one.minutes(1);
        one.hold(0, 0);
        IcePads other = new IcePads();
        Checks.due("counts of another object", Checks.counts(other), "0 0 1 0 0 0 0 0 0 0");
        Checks.due("known(3, 2) of another object", other.known(3, 2), 0);
        Checks.due("trace of another object", other.trace(), 0);
    }
}
