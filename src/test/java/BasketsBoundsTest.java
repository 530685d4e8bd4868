/** The bounds that the promises 12 to 14 name: carry, tilt, balance. */
public final class BasketsBoundsTest {
    private static final Class<?> INDEX = Corners.INDEX;
    private static final Class<?> ARGUMENT = Corners.ARGUMENT;
    private static final Class<?> STATE = Corners.STATE;

    public static void main(String[] args) {
        promise12Sorts();
        promise12TakesApples();
        promise12ApplesLeft();
        promise12MostApples();
        promise12NoSuchSort();
        promise12NoSuchApples();
        promise12BothNone();
        promise12NotSoMany();
        promise12Refused();
        promise13NothingCarried();
        promise13LeftLessRight();
        promise13Most();
        promise14None();
        promise14AtMost20();
        promise14All();
        promise14LeastDifference();
        promise14NothingIsChanged();
        Due.end();
    }

    private static void promise12Sorts() {
        Due.sentence("Promise 12", "a sort");
        TwinOrchard x = Orchards.withApples(5, 6, 7, 8, 9, 10);
        for (int sort = 0; sort <= 5; sort++) {
            Due.same("carry of the sort " + sort, x.carry(sort, 1, 0), 4 + sort);
            for (int other = 0; other <= 5; other++) {
                Due.same("apples of the sort " + other, x.sort(other, 2), other <= sort ? 4 + other : 5 + other);
            }
        }
    }

    private static void promise12TakesApples() {
        Due.sentence("Promise 12", "Takes apples out of the barn for two baskets, and carries them away.");
        TwinOrchard x = Orchards.withApples(9);
        Due.same("one into the left basket alone", x.carry(0, 1, 0), 8);
        Due.same("one into the right basket alone", x.carry(0, 0, 1), 7);
        Due.same("into both", x.carry(0, 1, 1), 5);
        Due.same("count(5)", x.count(5), 5);
        Due.same("count(6)", x.count(6), 15);
        Due.same("the year stays", x.count(1), 20);
    }

    private static void promise12ApplesLeft() {
        Due.sentence("Promise 12", "Returns the apples of this sort that are left in the barn.");
        for (int left = 0; left <= 8; left++) {
            TwinOrchard x = Orchards.withApples(9);
            Due.same("one is left", x.carry(0, left, 8 - left), 1);
            Due.same("none is left", x.carry(0, 1, 0), 0);
            TwinOrchard y = Orchards.withApples(9);
            Due.same("none is left, at once", y.carry(0, left, 9 - left), 0);
        }
    }

    private static void promise12MostApples() {
        Due.sentence("Promise 12", "how many of its apples go into the left basket");
        TwinOrchard x = Orchards.withApples(801);
        Due.same("the most into both", x.carry(0, 200, 200), 401);
        Due.same("the most into the left one", x.carry(0, 200, 0), 201);
        Due.same("the most into the right one", x.carry(0, 0, 200), 1);
        TwinOrchard y = Orchards.withApples(400);
        Due.same("the most, and all there are", y.carry(0, 200, 200), 0);
    }

    private static void promise12NoSuchSort() {
        Due.sentence("Promise 12", "if sort is not 0 to 5");
        TwinOrchard x = Orchards.rich();
        Due.thrown("carry(-1, 1, 1)", x, INDEX, () -> x.carry(-1, 1, 1));
        Due.thrown("carry(6, 1, 1)", x, INDEX, () -> x.carry(6, 1, 1));
        Due.thrown("carry(-1, 201, 0), told first", x, INDEX, () -> x.carry(-1, 201, 0));
        Due.thrown("carry(6, 0, 0), told first", x, INDEX, () -> x.carry(6, 0, 0));
    }

    private static void promise12NoSuchApples() {
        Due.sentence("Promise 12", "if left or right is not 0 to 200");
        TwinOrchard x = Orchards.withApples(500);
        Due.thrown("carry(0, -1, 1)", x, ARGUMENT, () -> x.carry(0, -1, 1));
        Due.thrown("carry(0, 1, -1)", x, ARGUMENT, () -> x.carry(0, 1, -1));
        Due.thrown("carry(0, -1, 200)", x, ARGUMENT, () -> x.carry(0, -1, 200));
        Due.thrown("carry(0, 201, 0)", x, ARGUMENT, () -> x.carry(0, 201, 0));
        Due.thrown("carry(0, 0, 201)", x, ARGUMENT, () -> x.carry(0, 0, 201));
        Due.thrown("carry(0, 201, -1)", x, ARGUMENT, () -> x.carry(0, 201, -1));
        Due.thrown("carry(1, 201, 0) of none, told first", x, ARGUMENT, () -> x.carry(1, 201, 0));
        Due.thrown("carry(1, 0, -1) of none, told first", x, ARGUMENT, () -> x.carry(1, 0, -1));
    }

    private static void promise12BothNone() {
        Due.sentence("Promise 12", "or both are 0");
        TwinOrchard x = Orchards.withApples(5);
        Due.thrown("carry(0, 0, 0)", x, ARGUMENT, () -> x.carry(0, 0, 0));
        Due.thrown("carry(1, 0, 0) of none", x, ARGUMENT, () -> x.carry(1, 0, 0));
        Due.same("one is enough", x.carry(0, 0, 1), 4);
        Due.same("one is enough, left", x.carry(0, 1, 0), 3);
    }

    private static void promise12NotSoMany() {
        Due.sentence("Promise 12", "if there are not so many");
        TwinOrchard x = Orchards.withApples(9, 300);
        for (int left = 0; left <= 10; left++) {
            int into = left;
            Due.thrown("carry(0, " + into + ", " + (10 - into) + ")", x, STATE, () -> x.carry(0, into, 10 - into));
        }
        Due.thrown("carry(1, 200, 101)", x, STATE, () -> x.carry(1, 200, 101));
        Due.thrown("carry(2, 1, 0) of none", x, STATE, () -> x.carry(2, 1, 0));
        Due.thrown("carry(2, 200, 200) of none", x, STATE, () -> x.carry(2, 200, 200));
        Due.same("just so many", x.carry(1, 200, 100), 0);
        Due.same("just so many, of few", x.carry(0, 4, 5), 0);
        Due.thrown("carry(0, 0, 1) of no more", x, STATE, () -> x.carry(0, 0, 1));
    }

    private static void promise12Refused() {
        Due.sentence("Promise 12", "Throws");
        Corners.of("carry", (x, a) -> x.carry(a[0], a[1], a[2]), BasketsBoundsTest::refused, Corners.index(0, 5),
                Corners.argument(0, 200), Corners.argument(0, 200));
    }

    private static Class<?> refused(TwinOrchard before, int[] a) {
        if (a[1] == 0 && a[2] == 0) {
            return ARGUMENT;
        }
        return a[1] + a[2] > before.sort(a[0], 2) ? STATE : null;
    }

    private static void promise13NothingCarried() {
        Due.sentence("Promise 13", "Returns the weight that was carried in left baskets in all");
        TwinOrchard x = Orchards.grown(9, 9);
        Due.same("nothing was carried", x.tilt(), 0);
        x.carry(0, 20, 20);
        Due.same("as much in both", x.tilt(), 0);
        x.carry(0, 1, 0);
        Due.same("one in left baskets", x.tilt(), 3);
        x.pass(30);
        Due.same("in all, in other years too", x.tilt(), 3);
    }

    private static void promise13LeftLessRight() {
        Due.sentence("Promise 13", "less that in right ones");
        TwinOrchard x = Orchards.grown(9, 9);
        x.carry(0, 0, 1);
        Due.same("one in right baskets", x.tilt(), -3);
        x.carry(0, 1, 0);
        Due.same("one in each", x.tilt(), 0);
        x.setSort(0, 9, 4);
        x.carry(0, 2, 0);
        x.setSort(0, 1, 4);
        x.carry(0, 0, 17);
        Due.same("two of the most weight, 17 of the least", x.tilt(), 1);
        x.carry(0, 0, 2);
        Due.same("19 of the least", x.tilt(), -1);
        Due.thrown("carry of too many", x, STATE, () -> x.carry(0, 200, 200));
        Due.same("a refused one does not count", x.tilt(), -1);
    }

    private static void promise13Most() {
        Due.sentence("Promise 13", "in all");
        TwinOrchard x = Orchards.full(8, 1);
        x.setSort(0, 9, 4);
        x.pass(30);
        x.pass(30);
        for (int call = 1; call <= 150; call++) {
            x.carry(0, 0, 200);
            Due.same("the most at a time, " + call + " times", x.tilt(), -1800L * call);
        }
        for (int call = 1; call <= 150; call++) {
            x.carry(0, 200, 0);
        }
        Due.same("the same again in left baskets", x.tilt(), 0);
    }

    private static void promise14None() {
        Due.sentence("Promise 14", "(as many as there are)");
        Due.same("no apples", new TwinOrchard().balance(), 0);
        for (int sort = 0; sort <= 5; sort++) {
            int[] one = new int[6];
            one[sort] = 1;
            TwinOrchard x = Orchards.withApples(one);
            Due.same("one apple", x.balance(), 3);
            x.setSort(sort, 9, 4);
            Due.same("one of the most weight", x.balance(), 9);
            x.setSort(sort, 1, 4);
            Due.same("one of the least weight", x.balance(), 1);
            x.carry(sort, 1, 0);
            Due.same("none again", x.balance(), 0);
        }
    }

    private static void promise14AtMost20() {
        Due.sentence("Promise 14", "at most 20 of each sort are taken");
        for (int sort = 0; sort <= 5; sort++) {
            int[] apples = {18, 19, 20, 21, 22, 41};
            int[] due = {0, 9, 0, 0, 0, 0};
            for (int i = 0; i < apples.length; i++) {
                int[] many = new int[6];
                many[sort] = apples[i];
                TwinOrchard x = Orchards.withApples(many);
                x.setSort(sort, 9, 4);
                Due.same(apples[i] + " of the sort " + sort, x.balance(), due[i]);
            }
        }
        int[] many = {18, 19, 20, 21, 22, 23, 1000};
        for (int ones : many) {
            TwinOrchard x = Orchards.withApples(ones, 1);
            x.setSort(0, 1, 4);
            x.setSort(1, 9, 4);
            // 20 of the weight 1 and one of the weight 9 are odd in all.
            String told = ones + " of the weight 1 and one of the weight 9";
            Due.same(told, x.balance(), Math.min(ones, 20) % 2 == 0 ? 1 : 0);
        }
    }

    private static void promise14All() {
        Due.sentence("Promise 14", "each one into one of two baskets");
        TwinOrchard x = Orchards.withApples(20, 20, 20, 20, 20, 20);
        for (int sort = 0; sort <= 5; sort++) {
            x.setSort(sort, 9, 4);
        }
        Due.same("all that can be taken, of the most weight", x.balance(), 0);
        x.setSort(5, 8, 4);
        x.carry(0, 1, 0);
        // 99 of the weight 9 and 20 of the weight 8: an odd weight in all.
        Due.same("none is left out", x.balance(), 1);
        TwinOrchard y = Orchards.withApples(1, 1);
        y.setSort(0, 9, 4);
        y.setSort(1, 1, 4);
        Due.same("neither of two is left out", y.balance(), 8);
        TwinOrchard z = Orchards.withApples(25, 25, 25, 25, 25, 25);
        for (int sort = 0; sort <= 5; sort++) {
            z.setSort(sort, 1, 4);
        }
        Due.same("all that can be taken, of the least weight", z.balance(), 0);
    }

    private static void promise14LeastDifference() {
        Due.sentence("Promise 14", "Returns the least difference of the weights of both baskets that there can be");
        int[] apples = {1, 2, 1, 3, 1, 2};
        for (int first = 1; first <= 9; first += 2) {
            for (int second = 1; second <= 9; second += 4) {
                int[] weights = {first, second, 9, 8, first, 6};
                TwinOrchard x = Orchards.withApples(apples);
                for (int sort = 0; sort <= 5; sort++) {
                    x.setSort(sort, weights[sort], 4);
                }
                Due.same("weights " + first + " and " + second, x.balance(), least(apples, weights, 0, 0));
            }
        }
    }

    /** Every way to fill the baskets, sort by sort. */
    private static int least(int[] apples, int[] weights, int sort, int difference) {
        if (sort == apples.length) {
            return Math.abs(difference);
        }
        int least = Integer.MAX_VALUE;
        for (int left = 0; left <= apples[sort]; left++) {
            int more = (2 * left - apples[sort]) * weights[sort];
            least = Math.min(least, least(apples, weights, sort + 1, difference + more));
        }
        return least;
    }

    private static void promise14NothingIsChanged() {
        Due.sentence("Promise 14", "(nothing is changed)");
        TwinOrchard[] orchards = {new TwinOrchard(), Orchards.withApples(21, 1), Orchards.rich()};
        for (TwinOrchard x : orchards) {
            long before = x.digest();
            int first = x.balance();
            Due.same("digest behind it", x.digest(), before);
            Due.same("balance() again", x.balance(), first);
        }
    }
}
