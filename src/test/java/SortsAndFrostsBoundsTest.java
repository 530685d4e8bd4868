/** The bounds that the promises 1 to 3 name: a new object, setSort, setFrost. */
public final class SortsAndFrostsBoundsTest {
    private static final Class<?> INDEX = Corners.INDEX;
    private static final Class<?> ARGUMENT = Corners.ARGUMENT;

    public static void main(String[] args) {
        promise1WithoutTrees();
        promise1YearNought();
        promise2Sorts();
        promise2Weight();
        promise2Bears();
        promise2Before();
        promise2NoSuchSort();
        promise2NoSuchNumbers();
        promise3Years();
        promise3Before();
        promise3NoSuchYear();
        promise3NoSuchFrost();
        Due.end();
    }

    private static void promise1WithoutTrees() {
        Due.sentence("Promise 1", "Creates an orchard without trees");
        TwinOrchard x = new TwinOrchard();
        Due.same("count(3)", x.count(3), 0);
        Due.same("count(4)", x.count(4), 0);
        Due.sameMean("mean()", x.mean(), 0.0);
        for (int sort = 0; sort <= 5; sort++) {
            Due.same("trees of the sort " + sort, x.sort(sort, 3), 0);
            Due.same("apples of the sort " + sort, x.sort(sort, 2), 0);
        }
        Due.same("fell", x.fell(0, 0), 0);
        Due.same("prune", x.prune(0, 0, 1), 0);
        Due.same("graft", x.graft(0, 0, 0), 0);
        Due.same("pass(30)", x.pass(30), 0);
    }

    private static void promise1YearNought() {
        Due.sentence("Promise 1", "in the year 0");
        TwinOrchard x = new TwinOrchard();
        Due.same("count(0)", x.count(0), 0);
        x.setSort(0, 3, 0);
        x.plant(0, 0, 0, 9);
        x.setFrost(0, 9);
        Due.same("the first frost is that with the number 0", x.pass(1), 0);
        Due.same("count(0) then", x.count(0), 1);
    }

    private static void promise2Sorts() {
        Due.sentence("Promise 2", "a sort, 0 to 5");
        int[] ends = {0, 5};
        for (int sort : ends) {
            TwinOrchard x = new TwinOrchard();
            Due.same("setSort(" + sort + ", 8, 7)", x.setSort(sort, 8, 7), 34);
            for (int other = 0; other <= 5; other++) {
                Due.same("weight of the sort " + other, x.sort(other, 0), other == sort ? 8 : 3);
                Due.same("frost borne by the sort " + other, x.sort(other, 1), other == sort ? 7 : 4);
            }
        }
    }

    private static void promise2Weight() {
        Due.sentence("Promise 2", "the weight of its apples from now on");
        TwinOrchard x = Orchards.grown(1, 9);
        x.pass(1);
        x.carry(0, 4, 0);
        x.setSort(0, 9, 4);
        Due.same("the apples in the barn weigh the most", x.count(6), 14 * 9);
        Due.same("what was carried keeps its weight", x.tilt(), 4 * 3);
        x.carry(0, 0, 1);
        Due.same("what is carried now does not", x.tilt(), 4 * 3 - 9);
        x.setSort(0, 1, 4);
        Due.same("the apples in the barn weigh the least", x.count(6), 13);
        Due.same("in balance() too", x.balance(), 1);
    }

    private static void promise2Bears() {
        Due.sentence("Promise 2", "how much frost it bears");
        for (int bears = 0; bears <= 9; bears++) {
            TwinOrchard x = Orchards.grown(9, 1);
            x.setSort(0, 3, bears);
            Orchards.frostNow(x, 9);
            Due.same("a frost of 9 for one that bears " + bears, x.pass(1), 2L * bears);
        }
    }

    private static void promise2Before() {
        Due.sentence("Promise 2", "Returns 10 * weight + how much it bore, as they were before.");
        TwinOrchard x = new TwinOrchard();
        Due.same("at first", x.setSort(3, 1, 0), 34);
        Due.same("the least of both", x.setSort(3, 1, 9), 10);
        Due.same("the least and the most", x.setSort(3, 9, 0), 19);
        Due.same("the most and the least", x.setSort(3, 9, 9), 90);
        Due.same("the most of both", x.setSort(3, 9, 9), 99);
        Due.same("the same again", x.setSort(3, 9, 9), 99);
        Due.same("another sort's", x.setSort(2, 1, 1), 34);
    }

    private static void promise2NoSuchSort() {
        Due.sentence("Promise 2", "if sort is not 0 to 5");
        TwinOrchard x = Orchards.rich();
        Due.thrown("setSort(-1, 5, 5)", x, INDEX, () -> x.setSort(-1, 5, 5));
        Due.thrown("setSort(6, 5, 5)", x, INDEX, () -> x.setSort(6, 5, 5));
        Due.thrown("setSort(-1, 0, -1), told first", x, INDEX, () -> x.setSort(-1, 0, -1));
        Due.thrown("setSort(6, 10, 10), told first", x, INDEX, () -> x.setSort(6, 10, 10));
    }

    private static void promise2NoSuchNumbers() {
        Due.sentence("Promise 2", "if weight is not 1 to 9, or bears is not 0 to 9");
        TwinOrchard x = Orchards.rich();
        Due.thrown("setSort(0, 0, 5)", x, ARGUMENT, () -> x.setSort(0, 0, 5));
        Due.thrown("setSort(0, 10, 5)", x, ARGUMENT, () -> x.setSort(0, 10, 5));
        Due.thrown("setSort(5, 9, -1)", x, ARGUMENT, () -> x.setSort(5, 9, -1));
        Due.thrown("setSort(5, 9, 10)", x, ARGUMENT, () -> x.setSort(5, 9, 10));
        Corners.of("setSort", (y, a) -> y.setSort(a[0], a[1], a[2]),
                Corners.index(0, 5), Corners.argument(1, 9), Corners.argument(0, 9));
    }

    private static void promise3Years() {
        Due.sentence("Promise 3", "a year of the table, 0 to 9");
        int[] ends = {0, 9};
        for (int year : ends) {
            TwinOrchard x = new TwinOrchard();
            x.setFrost(year, 7);
            for (int other = 0; other <= 9; other++) {
                Due.same("frost of the year " + other, x.setFrost(other, 0), other == year ? 7 : 0);
            }
        }
    }

    private static void promise3Before() {
        Due.sentence("Promise 3", "Returns the frost before.");
        TwinOrchard x = new TwinOrchard();
        Due.same("at first", x.setFrost(9, 9), 0);
        Due.same("the most", x.setFrost(9, 9), 9);
        Due.same("the most again", x.setFrost(9, 0), 9);
        Due.same("the least", x.setFrost(9, 1), 0);
        x.pass(30);
        Due.same("years that go by leave the table", x.setFrost(9, 1), 1);
    }

    private static void promise3NoSuchYear() {
        Due.sentence("Promise 3", "if year is not 0 to 9");
        TwinOrchard x = Orchards.rich();
        Due.thrown("setFrost(-1, 1)", x, INDEX, () -> x.setFrost(-1, 1));
        Due.thrown("setFrost(10, 1)", x, INDEX, () -> x.setFrost(10, 1));
        Due.thrown("setFrost(-1, -1), told first", x, INDEX, () -> x.setFrost(-1, -1));
        Due.thrown("setFrost(10, 10), told first", x, INDEX, () -> x.setFrost(10, 10));
    }

    private static void promise3NoSuchFrost() {
        Due.sentence("Promise 3", "if frost is not 0 to 9");
        TwinOrchard x = Orchards.rich();
        Due.thrown("setFrost(0, -1)", x, ARGUMENT, () -> x.setFrost(0, -1));
        Due.thrown("setFrost(0, 10)", x, ARGUMENT, () -> x.setFrost(0, 10));
        Due.thrown("setFrost(9, -1)", x, ARGUMENT, () -> x.setFrost(9, -1));
        Due.thrown("setFrost(9, 10)", x, ARGUMENT, () -> x.setFrost(9, 10));
        Corners.of("setFrost", (y, a) -> y.setFrost(a[0], a[1]), Corners.index(0, 9), Corners.argument(0, 9));
    }
}
