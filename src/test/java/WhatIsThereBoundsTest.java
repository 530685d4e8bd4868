/** The bounds that the promises 8 to 11 name: tree, sort, count, leans. */
public final class WhatIsThereBoundsTest {
    private static final Class<?> INDEX = Corners.INDEX;

    public static void main(String[] args) {
        promise8IfThereIsATree();
        promise8Branches();
        promise8VigourAndSort();
        promise8IfItIsTired();
        promise8ApplesNow();
        promise8WithoutATree();
        promise8NoSuchTree();
        promise9Sorts();
        promise9ApplesInTheBarn();
        promise9Trees();
        promise9NoSuchSort();
        promise10Year();
        promise10Strength();
        promise10Trees();
        promise10TiredTrees();
        promise10ApplesInTheBarn();
        promise10PairsThatDiffer();
        promise10NoSuchQuestion();
        promise11Halves();
        promise11NoSuchRow();
        Due.end();
    }

    private static void places(TwinOrchard x, int row, int place, int what, int due) {
        Due.same("tree(" + row + ", " + place + ", " + what + ")", x.tree(row, place, what), due);
        Due.same("tree(" + row + ", " + (7 - place) + ", " + what + ")", x.tree(row, 7 - place, what), due);
    }

    private static void promise8IfThereIsATree() {
        Due.sentence("Promise 8", "0 1 if there is a tree, else 0");
        TwinOrchard x = new TwinOrchard();
        x.plant(0, 0, 0, 9);
        x.plant(4, 4, 5, 1);
        places(x, 0, 0, 0, 1);
        places(x, 4, 4, 0, 1);
        places(x, 0, 1, 0, 0);
        places(x, 4, 5, 0, 0);
        places(x, 1, 0, 0, 0);
        places(x, 3, 4, 0, 0);
        x.prune(0, 0, 1);
        places(x, 0, 0, 0, 1);
    }

    private static void promise8Branches() {
        Due.sentence("Promise 8", "1 its branches");
        for (int branches = 1; branches <= 9; branches++) {
            TwinOrchard x = Orchards.grown(branches, 1);
            places(x, 0, 0, 1, branches);
            x.prune(0, 0, branches);
            places(x, 0, 0, 1, 0);
        }
    }

    private static void promise8VigourAndSort() {
        Due.sentence("Promise 8", "2 its vigour, 3 its sort");
        for (int vigour = 1; vigour <= 9; vigour++) {
            TwinOrchard x = new TwinOrchard();
            x.plant(3, 2, vigour % 6, vigour);
            places(x, 3, 2, 2, vigour);
            places(x, 3, 2, 3, vigour % 6);
        }
    }

    private static void promise8IfItIsTired() {
        Due.sentence("Promise 8", "4 1 if it is tired, else 0");
        TwinOrchard x = Orchards.grown(3, 9);
        places(x, 0, 0, 4, 0);
        x.pass(1);
        places(x, 0, 0, 4, 1);
        x.pass(1);
        places(x, 0, 0, 4, 0);
    }

    private static void promise8ApplesNow() {
        Due.sentence("Promise 8", "5 the apples that it would bear now, as in step 2");
        int[][] trees = {{1, 1, 1}, {9, 1, 9}, {1, 9, 9}, {9, 9, 81}};
        for (int[] tree : trees) {
            places(Orchards.grown(tree[0], tree[1]), 0, 0, 5, tree[2]);
        }
        TwinOrchard x = Orchards.grown(7, 9);
        x.pass(1);
        places(x, 0, 0, 5, 81 / 4);
        TwinOrchard y = Orchards.grown(3, 7);
        y.pass(1);
        places(y, 0, 0, 5, 35 / 4);
        TwinOrchard z = Orchards.grown(7, 3);
        z.pass(1);
        for (int sort = 1; sort <= 3; sort++) {
            z.graft(0, 0, sort);
        }
        // Tired, with one branch of the vigour 3.
        places(z, 0, 0, 1, 1);
        places(z, 0, 0, 5, 3 / 4);
        TwinOrchard u = Orchards.grown(1, 9);
        u.setSort(0, 3, 0);
        Orchards.frostNow(u, 9);
        places(u, 0, 0, 5, 9);
        u.prune(0, 0, 1);
        places(u, 0, 0, 5, 0);
    }

    private static void promise8WithoutATree() {
        Due.sentence("Promise 8", "(1, 2, 4 and 5: 0 without a tree; 3: -1)");
        int[] due = {0, 0, 0, -1, 0, 0};
        TwinOrchard x = new TwinOrchard();
        TwinOrchard y = Orchards.tired();
        y.fell(0, 0);
        TwinOrchard z = Orchards.tired();
        for (int what = 0; what <= 5; what++) {
            places(x, 0, 0, what, due[what]);
            places(x, 4, 3, what, due[what]);
            places(y, 0, 0, what, due[what]);
            places(z, 0, 1, what, due[what]);
            places(z, 1, 0, what, due[what]);
        }
    }

    private static void promise8NoSuchTree() {
        Due.sentence("Promise 8", "if row is not 0 to 4, place is not 0 to 7, or what is not 0 to 5");
        TwinOrchard x = Orchards.rich();
        Due.thrown("tree(-1, 0, 0)", x, INDEX, () -> x.tree(-1, 0, 0));
        Due.thrown("tree(5, 0, 0)", x, INDEX, () -> x.tree(5, 0, 0));
        Due.thrown("tree(0, -1, 0)", x, INDEX, () -> x.tree(0, -1, 0));
        Due.thrown("tree(0, 8, 0)", x, INDEX, () -> x.tree(0, 8, 0));
        Due.thrown("tree(0, 0, -1)", x, INDEX, () -> x.tree(0, 0, -1));
        Due.thrown("tree(0, 0, 6)", x, INDEX, () -> x.tree(0, 0, 6));
        Due.thrown("tree(2, 2, 6) without a tree", x, INDEX, () -> x.tree(2, 2, 6));
        Corners.of("tree", (y, a) -> y.tree(a[0], a[1], a[2]), Corners.index(0, 4), Corners.index(0, 7),
                Corners.index(0, 5));
    }

    private static void promise9Sorts() {
        Due.sentence("Promise 9", "0 the weight of its apples, 1 how much frost it bears");
        for (int sort = 0; sort <= 5; sort++) {
            TwinOrchard x = new TwinOrchard();
            Due.same("weight at first", x.sort(sort, 0), 3);
            Due.same("frost borne at first", x.sort(sort, 1), 4);
            x.setSort(sort, 1, 0);
            Due.same("the least weight", x.sort(sort, 0), 1);
            Due.same("the least frost borne", x.sort(sort, 1), 0);
            x.setSort(sort, 9, 9);
            Due.same("the most weight", x.sort(sort, 0), 9);
            Due.same("the most frost borne", x.sort(sort, 1), 9);
        }
    }

    private static void promise9ApplesInTheBarn() {
        Due.sentence("Promise 9", "2 its apples in the barn");
        for (int sort = 0; sort <= 5; sort++) {
            TwinOrchard x = new TwinOrchard();
            Due.same("none at first", x.sort(sort, 2), 0);
            x.plant(0, 0, sort, 1);
            Due.same("none before a year went by", x.sort(sort, 2), 0);
            x.pass(1);
            Due.same("the least", x.sort(sort, 2), 2);
            x.carry(sort, 1, 1);
            Due.same("none again", x.sort(sort, 2), 0);
        }
    }

    private static void promise9Trees() {
        Due.sentence("Promise 9", "3 its trees");
        TwinOrchard x = Orchards.full(1, 1);
        Due.same("none of the sort 1", x.sort(1, 3), 0);
        Due.same("all there can be", x.sort(0, 3), 40);
        x.pass(1);
        x.graft(0, 0, 5);
        x.fell(4, 4);
        Due.same("two grafted and two felled", x.sort(0, 3), 36);
        Due.same("the two grafted", x.sort(5, 3), 2);
        Due.same("no tree of no sort", new TwinOrchard().sort(0, 3), 0);
    }

    private static void promise9NoSuchSort() {
        Due.sentence("Promise 9", "if sort is not 0 to 5, or what is not 0 to 3");
        TwinOrchard x = Orchards.rich();
        Due.thrown("sort(-1, 0)", x, INDEX, () -> x.sort(-1, 0));
        Due.thrown("sort(6, 0)", x, INDEX, () -> x.sort(6, 0));
        Due.thrown("sort(0, -1)", x, INDEX, () -> x.sort(0, -1));
        Due.thrown("sort(5, 4)", x, INDEX, () -> x.sort(5, 4));
        Corners.of("sort", (y, a) -> y.sort(a[0], a[1]), Corners.index(0, 5), Corners.index(0, 3));
    }

    private static void promise10Year() {
        Due.sentence("Promise 10", "0 the year");
        TwinOrchard x = new TwinOrchard();
        Due.same("at first", x.count(0), 0);
        x.pass(10);
        Due.same("10, not its remainder", x.count(0), 10);
        for (int call = 0; call < 500; call++) {
            x.pass(30);
        }
        Due.same("far on", x.count(0), 15010);
    }

    private static void promise10Strength() {
        Due.sentence("Promise 10", "1 the strength of the left twin, 2 that of the right twin");
        int[] strengths = {0, 1, 18, 20};
        for (int left : strengths) {
            TwinOrchard x = Orchards.withStrength(left);
            Due.same("of the left twin", x.count(1), left);
            Due.same("of the right twin", x.count(2), left);
        }
    }

    private static void promise10Trees() {
        Due.sentence("Promise 10", "3 trees");
        TwinOrchard x = new TwinOrchard();
        Due.same("none", x.count(3), 0);
        x.plant(4, 4, 0, 1);
        x.prune(4, 4, 1);
        Due.same("two without branches", x.count(3), 2);
        Due.same("all there can be", Orchards.full(1, 6).count(3), 40);
    }

    private static void promise10TiredTrees() {
        Due.sentence("Promise 10", "4 trees that are tired");
        TwinOrchard x = Orchards.full(9, 6);
        x.pass(5);
        Due.same("all there can be", x.count(4), 40);
        x.prune(4, 3, 1);
        Due.same("but two", x.count(4), 38);
        x.fell(0, 0);
        Due.same("but two that are felled", x.count(4), 36);
        Due.same("none", Orchards.full(1, 6).count(4), 0);
    }

    private static void promise10ApplesInTheBarn() {
        Due.sentence("Promise 10", "5 apples in the barn, 6 their weight, added");
        TwinOrchard x = Orchards.withApples(1, 0, 0, 0, 0, 2);
        x.setSort(0, 9, 0);
        x.setSort(5, 1, 0);
        Due.same("apples of the first and the last sort", x.count(5), 3);
        Due.same("their weight", x.count(6), 11);
        x.carry(0, 1, 0);
        x.carry(5, 1, 1);
        Due.same("no apples", x.count(5), 0);
        Due.same("no weight", x.count(6), 0);
    }

    private static void promise10PairsThatDiffer() {
        Due.sentence("Promise 10", "7 pairs of a place and its mirror that differ");
        Due.same("none where all is empty", new TwinOrchard().count(7), 0);
        Due.same("none where all is planted", Orchards.full(9, 6).count(7), 0);
        Due.same("none where much was done", Orchards.rich().count(7), 0);
    }

    private static void promise10NoSuchQuestion() {
        Due.sentence("Promise 10", "if what is not 0 to 7");
        TwinOrchard x = Orchards.rich();
        Due.thrown("count(-1)", x, INDEX, () -> x.count(-1));
        Due.thrown("count(8)", x, INDEX, () -> x.count(8));
        Corners.of("count", (y, a) -> y.count(a[0]), Corners.index(0, 7));
    }

    private static void promise11Halves() {
        Due.sentence("Promise 11", "Returns the apples that its left half (places 0 to 3) would bear now, less those of its right half.");
        TwinOrchard x = new TwinOrchard();
        TwinOrchard y = Orchards.full(9, 6);
        TwinOrchard z = Orchards.rich();
        for (int row = 0; row <= 4; row++) {
            Due.same("an empty row", x.leans(row), 0);
            Due.same("a full row, both halves alike", y.leans(row), 0);
            Due.same("halves that the twins made alike", z.leans(row), 0);
        }
    }

    private static void promise11NoSuchRow() {
        Due.sentence("Promise 11", "if row is not 0 to 4");
        TwinOrchard x = Orchards.rich();
        Due.thrown("leans(-1)", x, INDEX, () -> x.leans(-1));
        Due.thrown("leans(5)", x, INDEX, () -> x.leans(5));
        Corners.of("leans", (y, a) -> y.leans(a[0]), Corners.index(0, 4));
    }
}
