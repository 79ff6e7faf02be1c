import java.lang.reflect.InvocationTargetException;
import java.lang.reflect.Method;
import java.lang.reflect.Modifier;
import java.util.ArrayList;
import java.util.Comparator;
import java.util.List;
import java.util.function.Function;
import java.util.function.Supplier;

/** Boundary cases: every one is a method of its own, found by its form so that no list can leave it out. */
final class Cases {
    private Cases() {
    }

    /** Runs every static method of a class that is not private and takes nothing. */
    static void runAll(Class<?> tests) {
        int failed = 0;
        List<Method> cases = casesOf(tests);
        for (Method each : cases) {
            if (passes(each)) continue;
            failed++;
            System.out.println("FAILED: " + tests.getSimpleName() + "." + each.getName());
        }
        System.out.println(cases.size() + " cases, " + failed + " failed");
        if (cases.isEmpty() || failed > 0) System.exit(1);
        Checks.finish();
    }

    private static List<Method> casesOf(Class<?> tests) {
        List<Method> found = new ArrayList<>();
        for (Method method : tests.getDeclaredMethods()) {
            int modifiers = method.getModifiers();
            if (method.isSynthetic() || Modifier.isPrivate(modifiers) || !Modifier.isStatic(modifiers)) continue;
            if (method.getParameterCount() == 0) found.add(method);
        }
        found.sort(Comparator.comparing(Method::getName));
        return found;
    }

    private static boolean passes(Method test) {
        int before = Checks.wrong();
        try {
            test.invoke(null);
        } catch (InvocationTargetException e) {
            System.out.println(test.getName() + " threw " + e.getCause());
            return false;
        } catch (IllegalAccessException e) {
            System.out.println(test.getName() + " cannot be called: " + e);
            return false;
        }
        return Checks.wrong() == before;
    }

    /** A call on an object that goes on to be used. */
    static void due(IcePads pads, long want, String name, int... numbers) {
        Call call = new Call(name, numbers);
        Checks.due(call.toString(), call.on(pads), want);
    }

    /** A call on a new object made by the run: it answers as due. */
    static void taken(Supplier<IcePads> run, long want, String name, int... numbers) {
        due(run.get(), want, name, numbers);
    }

    /** A call on new objects made by the run: it is refused, and nothing that can be seen is changed by it. */
    static void refused(Supplier<IcePads> run, long want, String name, int... numbers) {
        changesNothing(run, want, new Call(name, numbers));
    }

    static void changesNothing(Supplier<IcePads> run, long want, Call call) {
        for (Function<IcePads, String> part : View.PARTS) {
            IcePads touched = run.get();
            Checks.due(call.toString(), call.on(touched), want);
            Checks.due("what is seen after " + call, part.apply(touched), part.apply(run.get()));
        }
    }
}
