/** Compares answers with those that are due, and counts the wrong ones. */
final class Due {
    interface Call {
        double answer();
    }

    private static int wrong = 0;
    private static int asked = 0;
    private static int sentences = 0;
    private static String told = "";

    private Due() {
    }

    /** The document's sentence that the answers from here on are due by; a wrong one is told with it. */
    static void sentence(String where, String words) {
        sentences++;
        told = where + ", \"" + words + "\": ";
    }

    static void same(String call, long got, long want) {
        asked++;
        if (got != want) {
            tell(call + " answered " + got + ", due is " + want);
        }
    }

    static void sameMean(String call, double got, double want) {
        asked++;
        if (Double.compare(got, want) != 0) {
            tell(call + " answered " + got + ", due is " + want);
        }
    }

    static void sameClass(String call, Class<?> got, Class<?> want) {
        asked++;
        if (got != want) {
            tell(call + " threw " + got + ", due is " + want);
        }
    }

    /** The call throws just this exception, and changes nothing that the digest tells. */
    static void thrown(String call, TwinOrchard orchard, Class<?> want, Call made) {
        long before = orchard.digest();
        sameClass(call, thrownBy(made), want);
        same(call + " leaves the digest", orchard.digest(), before);
    }

    /** The class of what the call throws, null if it answers. */
    static Class<?> thrownBy(Call made) {
        try {
            made.answer();
            return null;
        } catch (RuntimeException e) {
            return e.getClass();
        }
    }

    static void tell(String what) {
        wrong++;
        System.out.println(told + what);
    }

    static int wrongSoFar() {
        return wrong;
    }

    static void end() {
        String of = sentences == 0 ? "" : " for " + sentences + " sentences";
        System.out.println(asked + " answers" + of + ", " + wrong + " of them wrong");
        System.exit(wrong == 0 && asked > 0 ? 0 : 1);
    }
}
