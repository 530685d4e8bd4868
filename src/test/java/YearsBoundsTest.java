import java.math.BigInteger;
import java.util.function.Supplier;

/** The bounds that the promises 15 to 19 name: pass, foresee, advise, mean, digest. */
public final class YearsBoundsTest {
    private static final Class<?> INDEX = Corners.INDEX;
    private static final Class<?> ARGUMENT = Corners.ARGUMENT;
    private static final BigInteger TWO_TO_64 = BigInteger.ONE.shiftLeft(64);

    public static void main(String[] args) {
        promise15Years();
        promise15ApplesBorne();
        promise15NoSuchYears();
        promise16Years();
        promise16WithoutTrees();
        promise16FullOrchard();
        promise16NothingIsChanged();
        promise16NoSuchYears();
        promise16NoSuchQuestion();
        promise17Years();
        promise17LeastNumber();
        promise17NoMoreByAny();
        promise17AsFarAsTheyCan();
        promise17NothingIsChanged();
        promise17NoSuchYears();
        promise18BranchesByTrees();
        promise18NoTrees();
        promise19Start();
        promise19WrapsAround();
        promise19EachNumber();
        Due.end();
    }

    private static void promise15Years() {
        Due.sentence("Promise 15", "Lets years go by.");
        for (int years = 1; years <= 30; years++) {
            TwinOrchard x = Orchards.rich();
            TwinOrchard y = Orchards.rich();
            int borne = 0;
            for (int year = 0; year < years; year++) {
                borne += y.pass(1);
            }
            Due.same("pass(" + years + ")", x.pass(years), borne);
            Due.same("what is there behind it", x.digest(), y.digest());
        }
    }

    private static void promise15ApplesBorne() {
        Due.sentence("Promise 15", "Returns how many apples are borne in them.");
        Due.same("without trees", new TwinOrchard().pass(30), 0);
        TwinOrchard x = Orchards.grown(9, 9);
        int before = x.count(5);
        Due.same("one year, of the most apples", x.pass(1), 162);
        Due.same("what was borne before does not count", x.pass(1), 40);
        Due.same("all are in the barn", x.count(5), before + 202);
        x.prune(0, 0, 9);
        x.setSort(0, 3, 0);
        Orchards.frostNow(x, 9);
        Due.same("trees without branches", x.pass(1), 0);
        TwinOrchard y = Orchards.full(9, 6);
        y.pass(10);
        Due.same("40 trees of 81 / 4 apples, 30 years", y.pass(30), 40 * 20 * 30);
    }

    private static void promise15NoSuchYears() {
        Due.sentence("Promise 15", "if years is not 1 to 30");
        TwinOrchard x = Orchards.rich();
        Due.thrown("pass(0)", x, ARGUMENT, () -> x.pass(0));
        Due.thrown("pass(31)", x, ARGUMENT, () -> x.pass(31));
        Due.thrown("pass(-1)", x, ARGUMENT, () -> x.pass(-1));
        Corners.of("pass", (y, a) -> y.pass(a[0]), Corners.argument(1, 30));
    }

    private static void promise16Years() {
        Due.sentence("Promise 16", "how many, 1 to 30");
        for (int years = 1; years <= 30; years++) {
            TwinOrchard x = Orchards.rich();
            int apples = x.foresee(years, 0);
            int branches = x.foresee(years, 1);
            int tired = x.foresee(years, 2);
            Due.same("apples in " + years, apples, x.pass(years));
            int[][] pairs = {{0, 0}, {0, 3}, {4, 0}, {4, 3}};
            int due = 0;
            for (int[] pair : pairs) {
                due += x.tree(pair[0], pair[1], 1) + x.tree(pair[0], 7 - pair[1], 1);
            }
            Due.same("branches then, " + years, branches, due);
            Due.same("tired then, " + years, tired, x.count(4));
        }
    }

    private static void promise16WithoutTrees() {
        Due.sentence("Promise 16", "0 apples that are borne in them, 1 branches of all trees then, 2 trees that are tired then");
        TwinOrchard x = new TwinOrchard();
        TwinOrchard y = Orchards.grown(1, 9);
        y.setSort(0, 3, 0);
        y.setFrost(0, 9);
        for (int what = 0; what <= 2; what++) {
            Due.same("foresee(1, " + what + ") without trees", x.foresee(1, what), 0);
            Due.same("foresee(30, " + what + ") without trees", x.foresee(30, what), 0);
        }
        Due.same("no apples", y.foresee(1, 0), 0);
        Due.same("branches behind the growing", y.foresee(1, 1), 4);
        Due.same("none tired", y.foresee(1, 2), 0);
    }

    private static void promise16FullOrchard() {
        Due.sentence("Promise 16", "Returns this, if nothing is done");
        TwinOrchard x = Orchards.full(9, 6);
        x.pass(10);
        Due.same("the most years of 40 trees", x.foresee(30, 0), 40 * 20 * 30);
        Due.same("one year of 40 trees", x.foresee(1, 0), 40 * 20);
        Due.same("40 trees of 9 branches", x.foresee(30, 1), 360);
        Due.same("40 tired trees", x.foresee(30, 2), 40);
        TwinOrchard y = Orchards.grown(9, 1);
        y.setFrost(0, 6);
        // It is the year 8; the years 10 and 20 are cold.
        Due.same("the year before it is cold", y.foresee(2, 0), 2 * (9 + 9));
        Due.same("the cold year 10", y.foresee(3, 0), 2 * (9 + 9 + 7));
        Due.same("the branches behind it", y.foresee(3, 1), 2 * 8);
        Due.same("the cold years 10 and 20", y.foresee(13, 0), 2 * (13 * 9 - 2 - 1 - 2));
    }

    private static void promise16NothingIsChanged() {
        Due.sentence("Promise 16", "(nothing is changed)");
        String before = Orchards.everything(Orchards.rich());
        for (int what = 0; what <= 2; what++) {
            TwinOrchard x = Orchards.rich();
            x.foresee(1, what);
            x.foresee(30, what);
            Due.same("foresee of " + what, Orchards.everything(x).equals(before) ? 1 : 0, 1);
        }
    }

    private static void promise16NoSuchYears() {
        Due.sentence("Promise 16", "if years is not 1 to 30");
        TwinOrchard x = Orchards.rich();
        Due.thrown("foresee(0, 0)", x, ARGUMENT, () -> x.foresee(0, 0));
        Due.thrown("foresee(31, 2)", x, ARGUMENT, () -> x.foresee(31, 2));
        Due.thrown("foresee(0, -1), told first", x, ARGUMENT, () -> x.foresee(0, -1));
        Due.thrown("foresee(31, 3), told first", x, ARGUMENT, () -> x.foresee(31, 3));
    }

    private static void promise16NoSuchQuestion() {
        Due.sentence("Promise 16", "if what is not 0 to 2");
        TwinOrchard x = Orchards.rich();
        Due.thrown("foresee(1, -1)", x, INDEX, () -> x.foresee(1, -1));
        Due.thrown("foresee(30, 3)", x, INDEX, () -> x.foresee(30, 3));
        Corners.of("foresee", (y, a) -> y.foresee(a[0], a[1]), Corners.argument(1, 30), Corners.index(0, 2));
    }

    /** Every pruning asked for and waited for, each in an orchard of its own. */
    private static int bestPruning(Supplier<TwinOrchard> fresh, int years) {
        int most = fresh.get().pass(years);
        int best = -1;
        for (int row = 0; row <= 4; row++) {
            for (int place = 0; place <= 7; place++) {
                for (int cut = 1; cut <= 9; cut++) {
                    TwinOrchard x = fresh.get();
                    x.prune(row, place, cut);
                    int borne = x.pass(years);
                    if (borne > most) {
                        most = borne;
                        best = 100 * row + 10 * place + cut;
                    }
                }
            }
        }
        return best;
    }

    private static TwinOrchard coldAhead() {
        TwinOrchard x = new TwinOrchard();
        x.plant(2, 3, 1, 7);
        x.plant(4, 3, 5, 9);
        x.plant(4, 0, 3, 5);
        x.pass(9);
        x.setFrost(0, 7);
        x.setFrost(2, 9);
        x.setFrost(5, 5);
        x.setSort(5, 3, 2);
        return x;
    }

    /** Rested, of the vigour 3 and with 9 branches, of which a frost takes one in the third year ahead. */
    private static TwinOrchard muchToPrune() {
        TwinOrchard x = Orchards.grown(9, 3);
        x.setFrost((x.count(0) + 2) % 10, 5);
        return x;
    }

    private static void promise17Years() {
        Due.sentence("Promise 17", "Looks for the pruning that had best be asked for now, so that the most apples are borne in so many years");
        for (int years = 1; years <= 6; years++) {
            Due.same("advise(" + years + ")", Orchards.rich().advise(years), bestPruning(Orchards::rich, years));
            int due = bestPruning(YearsBoundsTest::coldAhead, years);
            Due.same("advise(" + years + ") from the year 9 on", coldAhead().advise(years), due);
            due = bestPruning(YearsBoundsTest::muchToPrune, years);
            Due.same("advise(" + years + ") of 9 branches", muchToPrune().advise(years), due);
            due = bestPruning(Orchards::tired, years);
            Due.same("advise(" + years + ") of one tired pair", Orchards.tired().advise(years), due);
        }
        TwinOrchard x = new TwinOrchard();
        x.plant(4, 4, 0, 9);
        x.pass(2);
        Due.same("the last row, and the last place of a left half", x.advise(1), 431);
        Due.same("the first row and place", Orchards.tired().advise(1), 1);
        // No tree and no frosts have a best pruning of more than 4 branches.
        Due.same("the most branches", muchToPrune().advise(4), 4);
    }

    private static void promise17LeastNumber() {
        Due.sentence("Promise 17", "Returns 100 * row + 10 * place + branches, of several the least number");
        TwinOrchard x = new TwinOrchard();
        x.plant(1, 1, 0, 9);
        x.plant(0, 5, 1, 9);
        x.plant(0, 3, 2, 9);
        x.plant(3, 0, 3, 9);
        x.pass(2);
        Due.same("of like rows and places", x.advise(1), 21);
        x.prune(0, 2, 1);
        Due.same("of like rows and places but one", x.advise(1), 31);
        x.prune(0, 3, 1);
        Due.same("of like rows", x.advise(1), 111);
        x.prune(1, 1, 1);
        Due.same("of a place and its mirror", x.advise(1), 301);
        // Of 8 branches pruned by 1 or by 3, tired with the vigour 3, 15 more are borne in 3 years.
        int[] borne = new int[4];
        for (int cut = 0; cut <= 3; cut++) {
            TwinOrchard y = Orchards.grown(7, 3);
            y.pass(1);
            if (cut == 0) {
                Due.same("of like numbers of branches", y.advise(3), 1);
            } else {
                y.prune(0, 0, cut);
            }
            borne[cut] = y.pass(3);
        }
        Due.same("pruned by 1", borne[1] - borne[0], 30);
        Due.same("pruned by 3", borne[3] - borne[0], 30);
    }

    private static void promise17NoMoreByAny() {
        Due.sentence("Promise 17", "-1 if no more are borne by any");
        for (int years = 1; years <= 6; years++) {
            Due.same("without trees", new TwinOrchard().advise(years), -1);
            Due.same("a vigour of 1", Orchards.grown(9, 1).advise(years), -1);
        }
        TwinOrchard x = Orchards.grown(1, 9);
        x.prune(0, 0, 1);
        Due.same("without branches", x.advise(6), -1);
        // As many are borne by some: not one more.
        TwinOrchard y = Orchards.grown(7, 4);
        int as = y.foresee(2, 0);
        Due.same("as many", y.advise(2), -1);
        int most = 0;
        for (int cut = 1; cut <= 7; cut++) {
            TwinOrchard z = Orchards.grown(7, 4);
            z.prune(0, 0, cut);
            most = Math.max(most, z.pass(2));
        }
        Due.same("as many by the best", most, as);
        TwinOrchard u = Orchards.grown(7, 3);
        u.pass(1);
        for (int sort = 1; sort <= 3; sort++) {
            u.graft(0, 0, sort);
        }
        Due.same("none, pruned or not", u.advise(1), -1);
    }

    private static void promise17AsFarAsTheyCan() {
        Due.sentence("Promise 17", "(both twins do it, as far as they can)");
        int[] strengths = {0, 1, 2, 3};
        for (int left : strengths) {
            TwinOrchard x = Orchards.tired();
            x.plant(1, 0, 0, 1);
            x.plant(1, 1, 0, 1);
            if (left % 2 == 1) {
                x.plant(1, 2, 0, 1);
            } else {
                x.graft(1, 0, 1);
            }
            for (int graft = 2; x.count(1) - left >= 4 && graft <= 3; graft++) {
                x.graft(1, 0, graft);
            }
            if (x.count(1) > left) {
                x.prune(1, 1, 1);
            }
            Due.same("strength to begin with", x.count(1), left);
            Due.same("advise(1) with a strength of " + left, x.advise(1), left < 2 ? -1 : 1);
        }
    }

    private static void promise17NothingIsChanged() {
        Due.sentence("Promise 17", "(nothing is changed)");
        String before = Orchards.everything(Orchards.rich());
        for (int years = 1; years <= 6; years++) {
            TwinOrchard x = Orchards.rich();
            x.advise(years);
            Due.same("advise(" + years + ")", Orchards.everything(x).equals(before) ? 1 : 0, 1);
        }
    }

    private static void promise17NoSuchYears() {
        Due.sentence("Promise 17", "if years is not 1 to 6");
        TwinOrchard x = Orchards.rich();
        Due.thrown("advise(0)", x, ARGUMENT, () -> x.advise(0));
        Due.thrown("advise(7)", x, ARGUMENT, () -> x.advise(7));
        Due.thrown("advise(30)", x, ARGUMENT, () -> x.advise(30));
        Corners.of("advise", (y, a) -> y.advise(a[0]), Corners.argument(1, 6));
    }

    private static void promise18BranchesByTrees() {
        Due.sentence("Promise 18", "Returns branches of all trees, divided by all trees");
        for (int branches = 1; branches <= 9; branches++) {
            Due.sameMean("a pair of " + branches, Orchards.grown(branches, 1).mean(), branches);
        }
        TwinOrchard x = Orchards.grown(1, 1);
        x.prune(0, 0, 1);
        Due.sameMean("trees without branches", x.mean(), 0.0);
        x.plant(0, 1, 0, 1);
        Due.sameMean("a half", x.mean(), 0.5);
        x.plant(0, 2, 0, 1);
        Due.sameMean("two thirds", x.mean(), 4.0 / 6.0);
        TwinOrchard y = Orchards.full(9, 6);
        y.pass(6);
        Due.sameMean("the most", y.mean(), 9.0);
        y.prune(4, 4, 9);
        Due.sameMean("all but two", y.mean(), 342.0 / 40.0);
    }

    private static void promise18NoTrees() {
        Due.sentence("Promise 18", "0 if there are none");
        Due.sameMean("none at first", new TwinOrchard().mean(), 0.0);
        TwinOrchard x = Orchards.tired();
        x.fell(0, 0);
        Due.sameMean("none any more", x.mean(), 0.0);
    }

    /** The checksum without an end, whose last 64 bits are due. */
    private static BigInteger unwrapped(long[] numbers) {
        BigInteger d = BigInteger.valueOf(863);
        for (long number : numbers) {
            d = d.multiply(BigInteger.valueOf(31)).add(BigInteger.valueOf(number));
        }
        return d;
    }

    private static long wrapped(BigInteger d) {
        BigInteger rest = d.mod(TWO_TO_64);
        return (rest.testBit(63) ? rest.subtract(TWO_TO_64) : rest).longValueExact();
    }

    private static void promise19Start() {
        Due.sentence("Promise 19", "A number d starts with 863");
        TwinOrchard x = new TwinOrchard();
        BigInteger due = unwrapped(Orchards.numbers(x, new int[10]));
        Due.same("digest() of a new object", x.digest(), wrapped(due));
    }

    private static void promise19WrapsAround() {
        Due.sentence("Promise 19", "which wraps around as a 64-bit integer");
        int below = 0;
        int above = 0;
        for (int years = 1; years <= 30; years++) {
            TwinOrchard x = Orchards.tired();
            x.pass(years);
            x.carry(0, 3, years);
            BigInteger due = unwrapped(Orchards.numbers(x, new int[10]));
            Due.same("digest() behind pass(" + years + ")", x.digest(), wrapped(due));
            below += x.digest() < 0 ? 1 : 0;
            above += x.digest() > 0 ? 1 : 0;
        }
        Due.same("some are below 0", below > 0 ? 1 : 0, 1);
        Due.same("some are above 0", above > 0 ? 1 : 0, 1);
    }

    private static void promise19EachNumber() {
        Due.sentence("Promise 19", "for each of the following numbers x, d becomes d * 31 + x");
        TwinOrchard x = Orchards.rich();
        int[] frosts = {4, 0, 0, 7, 0, 0, 0, 0, 0, 5};
        Due.same("digest() where much was done", x.digest(), wrapped(unwrapped(Orchards.numbers(x, frosts))));
        for (int year = 0; year <= 9; year++) {
            TwinOrchard y = new TwinOrchard();
            int[] one = new int[10];
            one[year] = 9;
            y.setFrost(year, 9);
            Due.same("the frost of the year " + year, y.digest(), wrapped(unwrapped(Orchards.numbers(y, one))));
        }
        for (int row = 0; row <= 4; row++) {
            for (int place = 0; place <= 3; place++) {
                TwinOrchard y = new TwinOrchard();
                y.plant(row, place, 5, 9);
                long due = wrapped(unwrapped(Orchards.numbers(y, new int[10])));
                Due.same("trees in the row " + row + ", at the place " + place, y.digest(), due);
            }
        }
        TwinOrchard z = Orchards.full(8, 6);
        z.pass(30);
        z.carry(0, 0, 200);
        Due.same("a tilt below 0", z.digest(), wrapped(unwrapped(Orchards.numbers(z, new int[10]))));
    }
}
