/** Compares answers with those that are due, and counts the wrong ones. */
final class Due {
    interface Call {
        double answer();
    }

    private static int wrong = 0;
    private static int asked = 0;

    private Due() {
    }

    static void same(String call, long got, long want) {
        asked++;
        if (got != want) {
            tell(call + " answered " + got + ", due is " + want);
        }
    }

    static void sameMean(String call, double got, double want) {
        asked++;
        if (Double.compare(got, want) != 0) {
            tell(call + " answered " + got + ", due is " + want);
        }
    }

    /** The call throws just this exception, and changes nothing that the digest tells. */
    static void thrown(String call, TwinOrchard orchard, Class<?> want, Call made) {
        asked++;
        long before = orchard.digest();
        Class<?> got = null;
        try {
            made.answer();
        } catch (RuntimeException e) {
            got = e.getClass();
        }
        if (got != want) {
            tell(call + " threw " + got + ", due is " + want);
        }
        same(call + " leaves the digest", orchard.digest(), before);
    }

    static void tell(String what) {
        wrong++;
        System.out.println(what);
    }

    static int wrongSoFar() {
        return wrong;
    }

    static void end() {
        System.out.println(asked + " answers, " + wrong + " of them wrong");
        System.exit(wrong == 0 && asked > 0 ? 0 : 1);
    }
}
