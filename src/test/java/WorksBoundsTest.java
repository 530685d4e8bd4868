/** The bounds that the promises 4 to 7 name: plant, prune, graft, fell. */
public final class WorksBoundsTest {
    private static final Class<?> INDEX = Corners.INDEX;
    private static final Class<?> ARGUMENT = Corners.ARGUMENT;

    public static void main(String[] args) {
        strengthIsEnough();
        neitherOrBoth();
        promise4OneBranch();
        promise4IfThereIsNone();
        promise4SortsAndVigours();
        promise4NoSuchPlace();
        promise4NoSuchTree();
        promise5SoManyOrMore();
        promise5IfThereIsOne();
        promise5RestedThen();
        promise5NoSuchPlace();
        promise5NoSuchNumber();
        promise6OfAnotherSort();
        promise6WithABranch();
        promise6HalfOfItsBranches();
        promise6NoSuchPlace();
        promise6NoSuchSort();
        promise7IfThereIsOne();
        promise7NoSuchPlace();
        Due.end();
    }

    private interface Work {
        int done(TwinOrchard x);
    }

    private static void places(TwinOrchard x, int row, int... due) {
        for (int what = 0; what < due.length; what++) {
            Due.same("tree(" + row + ", 0, " + what + ")", x.tree(row, 0, what), due[what]);
            Due.same("tree(" + row + ", 7, " + what + ")", x.tree(row, 7, what), due[what]);
        }
    }

    /** Each twin does it with a strength of its cost, and leaves it with one less. */
    private static void costs(String name, int cost, Work work) {
        int[] more = {0, 1, 20 - cost};
        for (int left : more) {
            TwinOrchard x = Orchards.withStrength(cost + left);
            int before = cost + left;
            Due.same(name + " with a strength of " + before, work.done(x), 3);
            Due.same("the left twin has left", x.count(1), before - cost);
            Due.same("the right twin has left", x.count(2), before - cost);
        }
        for (int less = cost - 1; less >= 0; less--) {
            TwinOrchard x = Orchards.withStrength(less);
            long before = x.digest();
            Due.same(name + " with a strength of " + less, work.done(x), 0);
            Due.same(name + " changes nothing then", x.digest(), before);
        }
    }

    private static void strengthIsEnough() {
        Due.sentence("Promise 4", "cost 5");
        costs("plant", 5, x -> x.plant(1, 0, 1, 1));
        Due.sentence("Promise 5", "cost 2");
        costs("prune", 2, x -> x.prune(0, 0, 1));
        costs("prune of 9", 2, x -> x.prune(0, 7, 9));
        Due.sentence("Promise 6", "cost 4");
        costs("graft", 4, x -> x.graft(0, 0, 1));
        Due.sentence("Promise 7", "cost 6");
        costs("fell", 6, x -> x.fell(0, 0));
    }

    private static void neitherOrBoth() {
        Due.sentence("works", "each tells 0 if neither twin did it");
        TwinOrchard x = new TwinOrchard();
        Due.same("both, at the first place", x.plant(0, 0, 0, 1), 3);
        Due.same("neither, at the first place", x.plant(0, 0, 0, 1), 0);
        Due.same("neither, at the last place", x.plant(0, 7, 0, 1), 0);
        Due.same("both, at the last place", x.fell(0, 7), 3);
        Due.same("neither, at the mirror of the last place", x.fell(0, 0), 0);
    }

    private static void promise4OneBranch() {
        Due.sentence("Promise 4", "Plants a tree with 1 branch");
        for (int vigour = 1; vigour <= 9; vigour++) {
            TwinOrchard x = new TwinOrchard();
            x.plant(1, 7, 5, vigour);
            places(x, 1, 1, 1, vigour, 5, 0, vigour);
        }
    }

    private static void promise4IfThereIsNone() {
        Due.sentence("Promise 4", "it can be done, if there is none");
        TwinOrchard x = Orchards.grown(1, 1);
        Due.same("where one stands", x.plant(0, 0, 5, 9), 0);
        places(x, 0, 1, 1, 1, 0, 0, 1);
        x.prune(0, 0, 1);
        Due.same("where one without branches stands", x.plant(0, 0, 5, 9), 0);
        places(x, 0, 1, 0, 1, 0, 0, 0);
        x.fell(0, 0);
        Due.same("where one stood", x.plant(0, 0, 5, 9), 3);
        places(x, 0, 1, 1, 9, 5, 0, 9);
    }

    private static void promise4SortsAndVigours() {
        Due.sentence("Promise 4", "its vigour");
        TwinOrchard x = new TwinOrchard();
        Due.same("the least of all", x.plant(0, 0, 0, 1), 3);
        places(x, 0, 1, 1, 1, 0, 0, 1);
        Due.same("the most of all", x.plant(4, 7, 5, 9), 3);
        places(x, 4, 1, 1, 9, 5, 0, 9);
        Due.same("trees of the first sort", x.sort(0, 3), 2);
        Due.same("trees of the last sort", x.sort(5, 3), 2);
    }

    private static void promise4NoSuchPlace() {
        Due.sentence("Promise 4", "if row is not 0 to 4, or place is not 0 to 7");
        TwinOrchard x = Orchards.rich();
        Due.thrown("plant(-1, 1, 0, 1)", x, INDEX, () -> x.plant(-1, 1, 0, 1));
        Due.thrown("plant(5, 1, 0, 1)", x, INDEX, () -> x.plant(5, 1, 0, 1));
        Due.thrown("plant(1, -1, 0, 1)", x, INDEX, () -> x.plant(1, -1, 0, 1));
        Due.thrown("plant(1, 8, 0, 1)", x, INDEX, () -> x.plant(1, 8, 0, 1));
        Due.thrown("plant(5, 1, 6, 10), told first", x, INDEX, () -> x.plant(5, 1, 6, 10));
        Due.thrown("plant(1, -1, -1, 0), told first", x, INDEX, () -> x.plant(1, -1, -1, 0));
    }

    private static void promise4NoSuchTree() {
        Due.sentence("Promise 4", "if sort is not 0 to 5, or vigour is not 1 to 9");
        TwinOrchard x = Orchards.rich();
        Due.thrown("plant(1, 1, -1, 1)", x, ARGUMENT, () -> x.plant(1, 1, -1, 1));
        Due.thrown("plant(1, 1, 6, 1)", x, ARGUMENT, () -> x.plant(1, 1, 6, 1));
        Due.thrown("plant(1, 1, 0, 0)", x, ARGUMENT, () -> x.plant(1, 1, 0, 0));
        Due.thrown("plant(1, 1, 0, 10)", x, ARGUMENT, () -> x.plant(1, 1, 0, 10));
        Due.thrown("plant(0, 0, 6, 10) where one stands", x, ARGUMENT, () -> x.plant(0, 0, 6, 10));
        TwinOrchard y = Orchards.withStrength(4);
        Due.thrown("plant(1, 1, 0, 10) without strength", y, ARGUMENT, () -> y.plant(1, 1, 0, 10));
        Corners.of("plant", (z, a) -> z.plant(a[0], a[1], a[2], a[3]), Corners.index(0, 4), Corners.index(0, 7),
                Corners.argument(0, 5), Corners.argument(1, 9));
    }

    private static void promise5SoManyOrMore() {
        Due.sentence("Promise 5", "it can be done, if there is one with so many branches or more; it has as many fewer");
        for (int branches = 1; branches <= 9; branches++) {
            for (int cut = 1; cut <= 9; cut++) {
                TwinOrchard x = Orchards.grown(branches, 2);
                boolean due = cut <= branches;
                String told = "prune of " + cut + " of " + branches;
                Due.same(told, x.prune(0, 7, cut), due ? 3 : 0);
                Due.same(told + ", left", x.tree(0, 7, 1), due ? branches - cut : branches);
                Due.same(told + ", left at the mirror", x.tree(0, 0, 1), due ? branches - cut : branches);
            }
        }
    }

    private static void promise5IfThereIsOne() {
        Due.sentence("Promise 5", "if there is one with so many branches or more");
        TwinOrchard x = new TwinOrchard();
        Due.same("prune where none stands", x.prune(4, 4, 1), 0);
        Due.same("strength stays", x.count(1), 20);
        x.plant(4, 4, 0, 1);
        x.prune(4, 4, 1);
        long before = x.digest();
        Due.same("prune where no branch is left", x.prune(4, 4, 1), 0);
        Due.same("nothing changed", x.digest(), before);
        x.fell(4, 3);
        Due.same("prune where one stood", x.prune(4, 4, 1), 0);
    }

    private static void promise5RestedThen() {
        Due.sentence("Promise 5", "and is rested then");
        TwinOrchard x = Orchards.tired();
        Due.same("neither does more than there are", x.prune(0, 0, 6), 0);
        places(x, 0, 1, 5, 9, 0, 1, 11);
        Due.same("prune of one", x.prune(0, 0, 1), 3);
        places(x, 0, 1, 4, 9, 0, 0, 36);
        Due.same("prune of a rested one", x.prune(0, 0, 1), 3);
        places(x, 0, 1, 3, 9, 0, 0, 27);
        TwinOrchard y = Orchards.tired();
        Due.same("prune of all", y.prune(0, 0, 5), 3);
        places(y, 0, 1, 0, 9, 0, 0, 0);
        Due.same("count(4)", y.count(4), 0);
    }

    private static void promise5NoSuchPlace() {
        Due.sentence("Promise 5", "if row is not 0 to 4, or place is not 0 to 7");
        TwinOrchard x = Orchards.rich();
        Due.thrown("prune(-1, 0, 1)", x, INDEX, () -> x.prune(-1, 0, 1));
        Due.thrown("prune(5, 0, 1)", x, INDEX, () -> x.prune(5, 0, 1));
        Due.thrown("prune(0, -1, 1)", x, INDEX, () -> x.prune(0, -1, 1));
        Due.thrown("prune(0, 8, 1)", x, INDEX, () -> x.prune(0, 8, 1));
        Due.thrown("prune(-1, 0, 0), told first", x, INDEX, () -> x.prune(-1, 0, 0));
        Due.thrown("prune(0, 8, 10), told first", x, INDEX, () -> x.prune(0, 8, 10));
    }

    private static void promise5NoSuchNumber() {
        Due.sentence("Promise 5", "if branches is not 1 to 9");
        TwinOrchard x = Orchards.rich();
        Due.thrown("prune(0, 0, 0)", x, ARGUMENT, () -> x.prune(0, 0, 0));
        Due.thrown("prune(0, 0, 10)", x, ARGUMENT, () -> x.prune(0, 0, 10));
        Due.thrown("prune(0, 0, -1)", x, ARGUMENT, () -> x.prune(0, 0, -1));
        Due.thrown("prune(1, 1, 10) where none stands", x, ARGUMENT, () -> x.prune(1, 1, 10));
        TwinOrchard y = Orchards.withStrength(1);
        Due.thrown("prune(0, 0, 0) without strength", y, ARGUMENT, () -> y.prune(0, 0, 0));
        Corners.of("prune", (z, a) -> z.prune(a[0], a[1], a[2]), Corners.index(0, 4), Corners.index(0, 7),
                Corners.argument(1, 9));
    }

    private static void promise6OfAnotherSort() {
        Due.sentence("Promise 6", "it can be done, if there is one of another sort");
        for (int own = 0; own <= 5; own++) {
            for (int sort = 0; sort <= 5; sort++) {
                TwinOrchard x = new TwinOrchard();
                x.plant(0, 0, own, 4);
                Due.same("graft of " + own + " with " + sort, x.graft(0, 0, sort), own == sort ? 0 : 3);
                places(x, 0, 1, 1, 4, sort, 0, 4);
                Due.same("strength", x.count(1), own == sort ? 15 : 11);
                Due.same("trees of this sort", x.sort(sort, 3), 2);
            }
        }
        TwinOrchard y = new TwinOrchard();
        Due.same("graft where none stands", y.graft(0, 0, 0), 0);
        Due.same("strength stays", y.count(2), 20);
        places(y, 0, 0, 0, 0, -1, 0, 0);
    }

    private static void promise6WithABranch() {
        Due.sentence("Promise 6", "with a branch or more");
        TwinOrchard x = Orchards.grown(1, 3);
        Due.same("graft with one branch", x.graft(0, 0, 1), 3);
        x.prune(0, 0, 1);
        long before = x.digest();
        Due.same("graft with none", x.graft(0, 0, 2), 0);
        Due.same("nothing changed", x.digest(), before);
        places(x, 0, 1, 0, 3, 1, 0, 0);
    }

    private static void promise6HalfOfItsBranches() {
        Due.sentence("Promise 6", "it is of this sort then, and has half of its branches, but at least 1");
        int[] half = {0, 1, 1, 1, 2, 2, 3, 3, 4, 4};
        for (int branches = 1; branches <= 9; branches++) {
            TwinOrchard x = Orchards.grown(branches, 2);
            Due.same("graft of " + branches, x.graft(0, 7, 5), 3);
            places(x, 0, 1, half[branches], 2, 5, 0, 2 * half[branches]);
        }
        TwinOrchard y = Orchards.tired();
        y.graft(0, 0, 5);
        places(y, 0, 1, 2, 9, 5, 1, 4);
    }

    private static void promise6NoSuchPlace() {
        Due.sentence("Promise 6", "if row is not 0 to 4, or place is not 0 to 7");
        TwinOrchard x = Orchards.rich();
        Due.thrown("graft(-1, 0, 1)", x, INDEX, () -> x.graft(-1, 0, 1));
        Due.thrown("graft(5, 0, 1)", x, INDEX, () -> x.graft(5, 0, 1));
        Due.thrown("graft(0, -1, 1)", x, INDEX, () -> x.graft(0, -1, 1));
        Due.thrown("graft(0, 8, 1)", x, INDEX, () -> x.graft(0, 8, 1));
        Due.thrown("graft(5, 0, 6), told first", x, INDEX, () -> x.graft(5, 0, 6));
        Due.thrown("graft(0, -1, -1), told first", x, INDEX, () -> x.graft(0, -1, -1));
    }

    private static void promise6NoSuchSort() {
        Due.sentence("Promise 6", "if sort is not 0 to 5");
        TwinOrchard x = Orchards.rich();
        Due.thrown("graft(0, 0, -1)", x, ARGUMENT, () -> x.graft(0, 0, -1));
        Due.thrown("graft(0, 0, 6)", x, ARGUMENT, () -> x.graft(0, 0, 6));
        Due.thrown("graft(1, 1, -1) where none stands", x, ARGUMENT, () -> x.graft(1, 1, -1));
        TwinOrchard y = Orchards.withStrength(3);
        Due.thrown("graft(0, 0, 6) without strength", y, ARGUMENT, () -> y.graft(0, 0, 6));
        Corners.of("graft", (z, a) -> z.graft(a[0], a[1], a[2]), Corners.index(0, 4), Corners.index(0, 7),
                Corners.argument(0, 5));
    }

    private static void promise7IfThereIsOne() {
        Due.sentence("Promise 7", "it can be done, if there is one");
        TwinOrchard x = new TwinOrchard();
        Due.same("fell where none stands", x.fell(0, 0), 0);
        Due.same("strength stays", x.count(1), 20);
        x.plant(0, 0, 0, 9);
        x.prune(0, 0, 1);
        Due.same("fell of one without branches", x.fell(0, 7), 3);
        places(x, 0, 0, 0, 0, -1, 0, 0);
        Due.same("fell where one stood", x.fell(0, 7), 0);
        Due.same("strength", x.count(2), 7);
        TwinOrchard y = Orchards.tired();
        Due.same("fell of a tired one", y.fell(0, 0), 3);
        places(y, 0, 0, 0, 0, -1, 0, 0);
        Due.same("no tree", y.count(3), 0);
        Due.same("none that is tired", y.count(4), 0);
        Due.same("it bears no more", y.pass(30), 0);
    }

    private static void promise7NoSuchPlace() {
        Due.sentence("Promise 7", "if row is not 0 to 4, or place is not 0 to 7");
        TwinOrchard x = Orchards.rich();
        Due.thrown("fell(-1, 0)", x, INDEX, () -> x.fell(-1, 0));
        Due.thrown("fell(5, 0)", x, INDEX, () -> x.fell(5, 0));
        Due.thrown("fell(0, -1)", x, INDEX, () -> x.fell(0, -1));
        Due.thrown("fell(0, 8)", x, INDEX, () -> x.fell(0, 8));
        TwinOrchard y = Orchards.withStrength(5);
        Due.thrown("fell(0, 8) without strength", y, INDEX, () -> y.fell(0, 8));
        Corners.of("fell", (z, a) -> z.fell(a[0], a[1]), Corners.index(0, 4), Corners.index(0, 7));
    }
}
