import java.util.Arrays;
import java.util.function.Supplier;

/**
 * Calls a method with the first and the last number that each of its parameters allows, the ones
 * just outside and the farthest ones, in every mixture.
 */
final class Corners {
    static final Class<?> INDEX = IndexOutOfBoundsException.class;
    static final Class<?> ARGUMENT = IllegalArgumentException.class;
    static final Class<?> STATE = IllegalStateException.class;

    /** What a parameter may be, and what is thrown if it is not. */
    record Allowed(int least, int most, Class<?> thrown) {
        boolean has(int number) {
            return least <= number && number <= most;
        }

        int[] corners() {
            return new int[] {Integer.MIN_VALUE, least - 1, least, most, most + 1, Integer.MAX_VALUE};
        }
    }

    interface Method {
        double answer(TwinOrchard x, int[] a);
    }

    /** What is thrown, null for nothing, where each number is allowed for itself. */
    interface More {
        Class<?> thrown(TwinOrchard before, int[] a);
    }

    private final String name;
    private final Method method;
    private final More more;
    private final Allowed[] allowed;
    private final Supplier<TwinOrchard> fresh;
    private final String untouched;

    private Corners(String name, Method method, More more, Supplier<TwinOrchard> fresh, Allowed... allowed) {
        this.name = name;
        this.method = method;
        this.more = more;
        this.allowed = allowed;
        this.fresh = fresh;
        this.untouched = Orchards.everything(fresh.get());
    }

    /** The exceptions are named in the order of the parameters. */
    static void of(String name, Method method, Allowed... allowed) {
        of(name, method, (before, a) -> null, allowed);
    }

    static void of(String name, Method method, More more, Allowed... allowed) {
        Due.sentence("Terms, " + name, "A method that throws an exception changes nothing. If several exceptions "
                + "apply, the one that is named first is thrown.");
        new Corners(name, method, more, Orchards::rich, allowed).from(0, new int[allowed.length]);
        new Corners(name + " of a new object", method, more, TwinOrchard::new, allowed).from(0, new int[allowed.length]);
    }

    static Allowed index(int least, int most) {
        return new Allowed(least, most, INDEX);
    }

    static Allowed argument(int least, int most) {
        return new Allowed(least, most, ARGUMENT);
    }

    private void from(int parameter, int[] a) {
        if (parameter == allowed.length) {
            call(a);
            return;
        }
        for (int number : allowed[parameter].corners()) {
            a[parameter] = number;
            from(parameter + 1, a);
        }
    }

    private Class<?> due(int[] a) {
        for (int parameter = 0; parameter < a.length; parameter++) {
            if (!allowed[parameter].has(a[parameter])) {
                return allowed[parameter].thrown();
            }
        }
        return more.thrown(fresh.get(), a);
    }

    private void call(int[] a) {
        TwinOrchard x = fresh.get();
        String told = name + Arrays.toString(a);
        Class<?> due = due(a);
        Due.sameClass(told, Due.thrownBy(() -> method.answer(x, a)), due);
        if (due != null) {
            Due.same(told + " changes nothing", Orchards.everything(x).equals(untouched) ? 1 : 0, 1);
        }
    }
}
