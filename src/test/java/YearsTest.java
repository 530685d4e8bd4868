/** Promises 15 to 19: pass, foresee, advise, mean, digest. */
public final class YearsTest {
    private static final Class<?> INDEX = IndexOutOfBoundsException.class;
    private static final Class<?> ARGUMENT = IllegalArgumentException.class;

    public static void main(String[] args) {
        promise15BearingAndGrowing();
        promise15TiredForGood();
        promise15Frost();
        promise15NewYear();
        promise15WrongInputs();
        promise16Foresee();
        promise16WrongInputs();
        promise17Advise();
        promise17LeastNumber();
        promise17Strength();
        promise17WrongInputs();
        promise18Mean();
        promise19NewObject();
        promise19Digest();
        Due.end();
    }

    private static TwinOrchard withPair(int vigour) {
        TwinOrchard x = new TwinOrchard();
        x.plant(2, 5, 1, vigour);
        return x;
    }

    /** Each year's apples of one tree of the pair. */
    private static void years(TwinOrchard x, int... apples) {
        for (int ahead = 0; ahead < apples.length; ahead++) {
            int year = x.count(0);
            Due.same("pass(1) in the year " + year, x.pass(1), 2L * apples[ahead]);
            Due.same("count(0)", x.count(0), year + 1);
        }
    }

    private static void promise15BearingAndGrowing() {
        TwinOrchard x = withPair(5);
        // 20 in the fourth year tire it, 6 in the fifth one rest it.
        years(x, 5, 10, 15, 20, 25 / 4, 30, 35 / 4, 40, 45 / 4, 45, 45 / 4);
        Due.same("no more than 9 branches", x.tree(2, 2, 1), 9);
        TwinOrchard y = withPair(6);
        years(y, 6, 12, 18, 24);
        Due.same("one more a year", y.tree(2, 5, 1), 5);
        TwinOrchard z = withPair(7);
        years(z, 7, 21, 35 / 4, 49, 63 / 4, 63);
        Due.same("two more a year, 9 at most", z.tree(2, 5, 1), 9);
        TwinOrchard u = withPair(8);
        u.pass(1);
        u.prune(2, 5, 1);
        u.pass(3);
        Due.same("8 branches", u.tree(2, 5, 1), 8);
        u.pass(1);
        Due.same("9 branches behind 8", u.tree(2, 5, 1), 9);
        Due.same("all in the barn", u.sort(1, 2), u.count(5));
    }

    private static void promise15TiredForGood() {
        TwinOrchard x = withPair(9);
        years(x, 9, 27, 45 / 4, 63, 81 / 4, 81 / 4, 81 / 4);
        Due.same("81 / 4 tires it anew", x.tree(2, 5, 4), 1);
    }

    private static void promise15Frost() {
        TwinOrchard x = withPair(4);
        x.setSort(1, 3, 2);
        x.setFrost(2, 2);
        x.setFrost(3, 4);
        x.setFrost(4, 9);
        // Frost 2 does no harm; 4 takes 2 of 4 branches; 9 takes all 3.
        years(x, 4, 8, 12, 8, 0, 4);
        x.setFrost(7, 3);
        x.setFrost(0, 9);
        Due.same("pass(5)", x.pass(5), 2 * (8 + 8 + 12 + 16 + 0));
        Due.same("branches behind the frost of the year 10", x.tree(2, 2, 1), 1);
        TwinOrchard y = withPair(9);
        y.pass(2);
        y.setFrost(2, 9);
        years(y, 0);
        Due.same("a tired tree without branches rests", y.tree(2, 5, 4), 0);
    }

    private static void promise15NewYear() {
        TwinOrchard x = withPair(1);
        x.plant(0, 0, 0, 1);
        Due.same("count(1)", x.count(1), 10);
        Due.same("pass(1)", x.pass(1), 4);
        Due.same("count(1) then", x.count(1), 20);
        Due.same("count(2) then", x.count(2), 20);
        Due.same("pass(30)", x.pass(30), 4 * (2 + 3 + 4 + 5 + 6 + 7 + 8 + 9 * 23));
        Due.same("count(0)", x.count(0), 31);
        Due.same("pass(30) without trees", new TwinOrchard().pass(30), 0);
    }

    private static void promise15WrongInputs() {
        TwinOrchard x = withPair(9);
        Due.thrown("pass(0)", x, ARGUMENT, () -> x.pass(0));
        Due.thrown("pass(-1)", x, ARGUMENT, () -> x.pass(-1));
        Due.thrown("pass(31)", x, ARGUMENT, () -> x.pass(31));
        Due.thrown("pass(MAX)", x, ARGUMENT, () -> x.pass(Integer.MAX_VALUE));
    }

    private static void promise16Foresee() {
        TwinOrchard x = withPair(9);
        x.plant(0, 3, 0, 5);
        x.setFrost(3, 6);
        long before = x.digest();
        int[] apples = new int[31];
        int[] branches = new int[31];
        int[] tired = new int[31];
        for (int years = 1; years <= 30; years++) {
            apples[years] = x.foresee(years, 0);
            branches[years] = x.foresee(years, 1);
            tired[years] = x.foresee(years, 2);
        }
        Due.same("digest behind foresee()", x.digest(), before);
        int borne = 0;
        for (int years = 1; years <= 30; years++) {
            borne += x.pass(1);
            Due.same("foresee(" + years + ", 0)", apples[years], borne);
            Due.same("foresee(" + years + ", 1)", branches[years], 2L * (x.tree(2, 5, 1) + x.tree(0, 3, 1)));
            Due.same("foresee(" + years + ", 2)", tired[years], x.count(4));
        }
        Due.same("foresee(1, 0) by hand", withPair(9).foresee(1, 0), 18);
        Due.same("foresee(2, 1) by hand", withPair(9).foresee(2, 1), 10);
        Due.same("foresee(2, 2) by hand", withPair(9).foresee(2, 2), 2);
        Due.same("foresee(30, 0) without trees", new TwinOrchard().foresee(30, 0), 0);
    }

    private static void promise16WrongInputs() {
        TwinOrchard x = withPair(9);
        Due.thrown("foresee(0, 0)", x, ARGUMENT, () -> x.foresee(0, 0));
        Due.thrown("foresee(31, 0)", x, ARGUMENT, () -> x.foresee(31, 0));
        Due.thrown("foresee(0, 3)", x, ARGUMENT, () -> x.foresee(0, 3));
        Due.thrown("foresee(1, -1)", x, INDEX, () -> x.foresee(1, -1));
        Due.thrown("foresee(30, 3)", x, INDEX, () -> x.foresee(30, 3));
    }

    private static void promise17Advise() {
        TwinOrchard x = withPair(9);
        Due.same("a rested tree gains nothing in a year", x.advise(1), -1);
        x.pass(2);
        long before = x.digest();
        // Tired, with 5 branches: 11 apples, but 36 with one branch less.
        Due.same("advise(1)", x.advise(1), 221);
        // Two years: 11 + 63 unpruned; with 2 off 27 + 11, with 4 off 9 + 27, with 3 off 18 + 36.
        Due.same("advise(2)", x.advise(2), -1);
        Due.same("digest behind advise()", x.digest(), before);
        TwinOrchard y = withPair(9);
        y.pass(1);
        // Three branches: 27 tire it, then 45 / 4; pruned by one: 18, then 36.
        Due.same("advise(2) to spare it", y.advise(2), 221);
        Due.same("advise(6) without trees", new TwinOrchard().advise(6), -1);
        TwinOrchard z = withPair(1);
        Due.same("nothing is gained", z.advise(6), -1);
    }

    private static void promise17LeastNumber() {
        TwinOrchard x = new TwinOrchard();
        x.plant(4, 0, 0, 9);
        x.plant(3, 6, 0, 9);
        x.plant(3, 5, 0, 9);
        x.pass(2);
        Due.same("of like ones the least", x.advise(1), 311);
        TwinOrchard y = new TwinOrchard();
        y.plant(0, 2, 0, 6);
        y.pass(6);
        y.plant(4, 3, 1, 9);
        y.pass(2);
        // Row 0 went 6, 12, 18, 24, 7, 36, 10, 48 and is tired with 9 branches: 13, or 48 pruned.
        // Row 4 went 9, 27 and is tired with 5 branches: 11, or 36 pruned.
        Due.same("the greatest gain, though a later one gains too", y.advise(1), 21);
        y.prune(0, 2, 1);
        Due.same("then the next one", y.advise(1), 431);
    }

    private static void promise17Strength() {
        TwinOrchard x = withPair(9);
        x.pass(2);
        x.plant(0, 0, 0, 1);
        x.plant(0, 1, 0, 1);
        x.graft(0, 0, 1);
        x.graft(0, 0, 2);
        Due.same("strength", x.count(1), 2);
        Due.same("advise with 2", x.advise(1), 221);
        x.prune(0, 1, 1);
        Due.same("advise with 0", x.advise(1), -1);
        TwinOrchard y = withPair(9);
        y.pass(2);
        y.plant(0, 0, 0, 1);
        y.plant(0, 1, 0, 1);
        y.plant(0, 2, 0, 1);
        y.graft(0, 0, 1);
        Due.same("strength", y.count(2), 1);
        Due.same("advise with 1", y.advise(1), -1);
    }

    private static void promise17WrongInputs() {
        TwinOrchard x = withPair(9);
        Due.thrown("advise(0)", x, ARGUMENT, () -> x.advise(0));
        Due.thrown("advise(-1)", x, ARGUMENT, () -> x.advise(-1));
        Due.thrown("advise(7)", x, ARGUMENT, () -> x.advise(7));
    }

    private static void promise18Mean() {
        TwinOrchard x = withPair(9);
        Due.sameMean("mean() of 1", x.mean(), 1.0);
        x.pass(1);
        x.plant(0, 0, 0, 1);
        Due.sameMean("mean() of 3 and 1", x.mean(), 2.0);
        x.plant(0, 1, 0, 1);
        Due.sameMean("mean() of 3, 1, 1", x.mean(), 10.0 / 6.0);
        x.prune(2, 5, 3);
        Due.sameMean("mean() of 0, 1, 1", x.mean(), 4.0 / 6.0);
        x.fell(2, 5);
        Due.sameMean("mean() of 1, 1", x.mean(), 1.0);
        Due.sameMean("mean() of none", new TwinOrchard().mean(), 0.0);
    }

    private static long behind(long d, long... numbers) {
        for (long x : numbers) {
            d = d * 31 + x;
        }
        return d;
    }

    private static void promise19NewObject() {
        long d = behind(863, 0, 20, 20, 0, 0, 0, 0, 0);
        for (int sort = 0; sort < 6; sort++) {
            d = behind(d, 3, 4, 0, 0);
        }
        d = behind(d, new long[10]);
        for (int spot = 0; spot < 40; spot++) {
            d = behind(d, 0, 0, 0, -1, 0, 0);
        }
        Due.same("digest() of a new object", new TwinOrchard().digest(), behind(d, 0));
    }

    private static void promise19Digest() {
        TwinOrchard x = withPair(9);
        x.setSort(1, 7, 6);
        x.setFrost(0, 3);
        x.setFrost(9, 8);
        x.pass(2);
        x.carry(1, 5, 20);
        x.prune(2, 5, 2);
        long d = behind(863, 2, 18, 18, 2, 0, 47, 329, 0);
        d = behind(d, 3, 4, 0, 0, 7, 6, 47, 2);
        for (int sort = 2; sort < 6; sort++) {
            d = behind(d, 3, 4, 0, 0);
        }
        d = behind(d, 3, 0, 0, 0, 0, 0, 0, 0, 0, 8);
        for (int spot = 0; spot < 40; spot++) {
            boolean stands = spot == 18 || spot == 21;
            d = stands ? behind(d, 1, 3, 9, 1, 0, 27) : behind(d, 0, 0, 0, -1, 0, 0);
        }
        Due.same("digest()", x.digest(), behind(d, -105));
        Due.same("digest() again", x.digest(), behind(d, -105));
    }
}
