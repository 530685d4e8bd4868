/** The bounds that the document's Terms name, and those of the four steps of a year. */
public final class TermsBoundsTest {
    private static final int[] STEP_YEARS = {1, 9, 10, 11, 19, 20, 29, 30};

    public static void main(String[] args) {
        placesOfTheOrchard();
        mirrors();
        treesAtEachPlace();
        noneAtFirst();
        branches();
        vigourAndSorts();
        restedAtFirst();
        weightsAndFrostsBorne();
        strength();
        placesOfTheTwins();
        tableOfFrosts();
        remainderOfTheYear();
        farYears();
        frostThatHarms();
        atLeastNoneLeft();
        bearingRested();
        bearingTired();
        withoutBranches();
        barnBySorts();
        twentyTires();
        growingByOne();
        growingByTwo();
        newYear();
        orderOfSteps();
        lastCalls();
        Due.end();
    }

    private static void placesOfTheOrchard() {
        Due.sentence("Orchard", "It has 5 rows, 0 to 4, of 8 places, 0 to 7 from the left to the right");
        int[][] ends = {{0, 0}, {0, 7}, {4, 0}, {4, 7}};
        for (int[] end : ends) {
            TwinOrchard x = new TwinOrchard();
            Due.same("plant at an end", x.plant(end[0], end[1], 0, 1), 3);
            Due.same("tree at an end", x.tree(end[0], end[1], 0), 1);
        }
        int[][] outside = {{-1, 0}, {5, 7}, {0, -1}, {4, 8}};
        TwinOrchard x = new TwinOrchard();
        for (int[] out : outside) {
            Due.thrown("plant outside", x, Corners.INDEX, () -> x.plant(out[0], out[1], 0, 1));
        }
    }

    private static void mirrors() {
        Due.sentence("Orchard", "the mirror of the place p is 7 - p in the same row");
        for (int row = 0; row <= 4; row++) {
            for (int place = 0; place <= 7; place++) {
                TwinOrchard x = new TwinOrchard();
                x.plant(row, place, 5, 9);
                for (int spot = 0; spot < 40; spot++) {
                    boolean due = spot / 8 == row && (spot % 8 == place || spot % 8 == 7 - place);
                    String told = "plant(" + row + ", " + place + "), spot " + spot;
                    Due.same(told, x.tree(spot / 8, spot % 8, 0), due ? 1 : 0);
                }
            }
        }
    }

    private static void treesAtEachPlace() {
        Due.sentence("Orchard", "A tree can stand at each place");
        TwinOrchard x = Orchards.full(1, 6);
        Due.same("count(3) where all is planted", x.count(3), 40);
        for (int spot = 0; spot < 40; spot++) {
            Due.same("tree at the spot " + spot, x.tree(spot / 8, spot % 8, 0), 1);
        }
        x.pass(1);
        for (int pair = 0; pair < 20; pair++) {
            Due.same("no more room", x.plant(pair / 4, 7 - pair % 4, 0, 1), 0);
        }
        Due.same("all the strength is left", x.count(1), 20);
    }

    private static void noneAtFirst() {
        Due.sentence("Orchard", "(none, at first)");
        TwinOrchard x = new TwinOrchard();
        Due.same("count(3)", x.count(3), 0);
        for (int spot = 0; spot < 40; spot++) {
            Due.same("tree at the spot " + spot, x.tree(spot / 8, spot % 8, 0), 0);
        }
    }

    private static void branches() {
        Due.sentence("Orchard", "it has branches, 0 to 9");
        TwinOrchard x = Orchards.grown(9, 1);
        Due.same("9 branches", x.tree(0, 0, 1), 9);
        x.pass(1);
        Due.same("never 10", x.tree(0, 0, 1), 9);
        x.prune(0, 0, 9);
        Due.same("0 branches", x.tree(0, 0, 1), 0);
        Due.same("the tree still stands", x.tree(0, 0, 0), 1);
        Due.same("never -1", x.prune(0, 0, 1), 0);
        Due.same("0 branches still", x.tree(0, 7, 1), 0);
    }

    private static void vigourAndSorts() {
        Due.sentence("Orchard", "vigour, 1 to 9, a sort, 0 to 5");
        TwinOrchard x = new TwinOrchard();
        x.plant(0, 0, 0, 1);
        x.plant(0, 1, 5, 9);
        Due.same("the least vigour", x.tree(0, 0, 2), 1);
        Due.same("the first sort", x.tree(0, 0, 3), 0);
        Due.same("the most vigour", x.tree(0, 1, 2), 9);
        Due.same("the last sort", x.tree(0, 1, 3), 5);
        x.pass(30);
        Due.same("vigour stays", x.tree(0, 1, 2), 9);
    }

    private static void restedAtFirst() {
        Due.sentence("Orchard", "is rested or tired (rested, at first)");
        TwinOrchard x = Orchards.tired();
        Due.same("a tired one", x.tree(0, 0, 4), 1);
        x.fell(0, 0);
        Due.same("none", x.tree(0, 0, 4), 0);
        x.plant(0, 0, 0, 9);
        Due.same("a new one is rested, where a tired one stood", x.tree(0, 0, 4), 0);
        Due.same("and bears like it", x.tree(0, 0, 5), 9);
    }

    private static void weightsAndFrostsBorne() {
        Due.sentence("Sorts", "Each has a weight of its apples, 1 to 9 (3, at first), and how much frost it bears, 0 to 9 (4, at first).");
        for (int sort = 0; sort <= 5; sort++) {
            TwinOrchard x = new TwinOrchard();
            Due.same("the least", x.setSort(sort, 1, 0), 34);
            Due.same("the most", x.setSort(sort, 9, 9), 10);
            Due.same("the most weight", x.sort(sort, 0), 9);
            Due.same("the most frost", x.sort(sort, 1), 9);
        }
    }

    private static void strength() {
        Due.sentence("Twins", "Each has strength for a year, 0 to 20 (20, at first, and again in each new year)");
        TwinOrchard x = new TwinOrchard();
        Due.same("the left twin at first", x.count(1), 20);
        Due.same("the right twin at first", x.count(2), 20);
        for (int row = 0; row < 4; row++) {
            x.plant(row, 0, 0, 1);
        }
        Due.same("the left twin has none left", x.count(1), 0);
        Due.same("the right twin has none left", x.count(2), 0);
        int[] spent = {0, 1, 2, 15, 20};
        for (int left : spent) {
            TwinOrchard y = Orchards.withStrength(left);
            Due.same("strength to begin with", y.count(1), left);
            y.pass(1);
            Due.same("20 again, of " + left, y.count(1), 20);
            Due.same("20 again for the right twin, of " + left, y.count(2), 20);
        }
    }

    private static void placesOfTheTwins() {
        Due.sentence("Twins", "the left twin works at the places 0 to 3, the right one at 4 to 7");
        for (int place = 0; place <= 7; place++) {
            TwinOrchard x = new TwinOrchard();
            Due.same("plant at the place " + place, x.plant(2, place, 0, 1), 3);
            Due.same("the left twin worked once", x.count(1), 15);
            Due.same("the right twin worked once", x.count(2), 15);
        }
    }

    private static void tableOfFrosts() {
        Due.sentence("Frost", "A table tells for each of 10 years a frost, 0 to 9 (0, at first)");
        TwinOrchard x = new TwinOrchard();
        for (int year = 0; year <= 9; year++) {
            Due.same("none at first in " + year, x.setFrost(year, 9), 0);
        }
        for (int year = 0; year <= 9; year++) {
            Due.same("the most in " + year, x.setFrost(year, 0), 9);
            Due.same("none again in " + year, x.setFrost(year, 0), 0);
        }
    }

    private static void remainderOfTheYear() {
        Due.sentence("Frost", "in the year y it is that with the number y by the remainder of 10");
        for (int cold = 0; cold <= 9; cold++) {
            TwinOrchard x = new TwinOrchard();
            x.setSort(0, 3, 0);
            x.plant(0, 0, 0, 1);
            x.setFrost(cold, 9);
            int branches = 1;
            for (int year = 0; year <= 30; year++) {
                int left = year % 10 == cold ? 0 : branches;
                Due.same("frost in " + cold + ", year " + year, x.pass(1), 2L * left);
                branches = Math.min(9, left + 1);
            }
        }
        // From the year 9 to the year 10, in one call.
        TwinOrchard y = Orchards.grown(9, 1);
        y.pass(1);
        y.setFrost(0, 9);
        Due.same("count(0)", y.count(0), 9);
        Due.same("pass(2) over the table's end", y.pass(2), 2 * (9 + 4));
        // One call from the year 2 to the year 31, of which 11, 21 and 31 are cold.
        TwinOrchard z = new TwinOrchard();
        z.setSort(0, 3, 0);
        z.setFrost(1, 9);
        z.pass(2);
        z.plant(0, 0, 0, 1);
        int between = 1 + 2 + 3 + 4 + 5 + 6 + 7 + 8 + 9;
        Due.same("pass(30) with three cold years", z.pass(30), 2L * 3 * between);
    }

    private static void farYears() {
        Due.sentence("Frost", "in the year y it is that with the number y by the remainder of 10");
        TwinOrchard x = new TwinOrchard();
        x.plant(0, 0, 0, 1);
        for (int call = 0; call < 500; call++) {
            x.pass(30);
        }
        x.pass(7);
        x.setFrost(8, 6);
        Due.same("the year", x.count(0), 15007);
        Due.same("the year 15007", x.pass(1), 18);
        Due.same("the year 15008 is cold", x.pass(1), 14);
        Due.same("the year 15009", x.pass(1), 16);
        Due.same("the year 15010", x.pass(1), 18);
    }

    /** The branches that are left by the frost are the apples of a rested tree of vigour 1. */
    private static void freeze(int bears, int frost, int branches, int left) {
        TwinOrchard x = Orchards.grown(branches, 1);
        x.setSort(0, 3, bears);
        Orchards.frostNow(x, frost);
        String told = "frost " + frost + " of a sort that bears " + bears + ", " + branches + " branches";
        Due.same(told, x.pass(1), 2L * left);
        Due.same(told + ", grown then", x.tree(0, 0, 1), Math.min(9, left + 1));
    }

    private static void frostThatHarms() {
        Due.sentence("Step 1", "each tree whose sort bears less than the frost of this year loses as many branches as the difference");
        freeze(4, 3, 5, 5);
        freeze(4, 4, 5, 5);
        freeze(4, 5, 5, 4);
        freeze(0, 0, 5, 5);
        freeze(0, 1, 5, 4);
        freeze(8, 9, 9, 8);
        freeze(9, 9, 9, 9);
        freeze(9, 0, 9, 9);
        freeze(1, 9, 9, 1);
        freeze(0, 9, 9, 0);
        TwinOrchard x = new TwinOrchard();
        x.plant(0, 0, 0, 1);
        x.plant(0, 1, 5, 1);
        x.pass(4);
        x.setSort(0, 3, 2);
        x.setSort(5, 3, 3);
        Orchards.frostNow(x, 3);
        Due.same("each by its own sort", x.pass(1), 2 * (4 + 5));
    }

    private static void atLeastNoneLeft() {
        Due.sentence("Step 1", "(at least 0 are left)");
        freeze(0, 2, 3, 1);
        freeze(0, 3, 3, 0);
        freeze(0, 4, 3, 0);
        freeze(0, 9, 1, 0);
        freeze(0, 9, 8, 0);
        TwinOrchard x = Orchards.grown(1, 1);
        x.prune(0, 0, 1);
        Orchards.frostNow(x, 9);
        Due.same("frost of a tree without branches", x.pass(1), 0);
        Due.same("which grows then", x.tree(0, 0, 1), 1);
    }

    private static void bearingRested() {
        Due.sentence("Step 2", "a tree that is rested bears branches * vigour apples");
        int[][] trees = {{1, 1, 1}, {1, 9, 9}, {9, 1, 9}, {9, 8, 72}, {9, 9, 81}, {8, 9, 72}};
        for (int[] tree : trees) {
            TwinOrchard x = Orchards.grown(tree[0], tree[1]);
            String told = tree[0] + " branches, vigour " + tree[1];
            Due.same(told + ", now", x.tree(0, 0, 5), tree[2]);
            Due.same(told, x.pass(1), 2L * tree[2]);
        }
    }

    /** A tired tree whose branches are frozen to this number as it bears. */
    private static void tiredBears(int vigour, int branches, int due) {
        TwinOrchard x = new TwinOrchard();
        x.setSort(0, 3, 0);
        x.plant(0, 0, 0, vigour);
        for (int years = 0; years < 10 && x.tree(0, 0, 4) == 0; years++) {
            x.pass(1);
        }
        Orchards.frostNow(x, x.tree(0, 0, 1) - branches);
        String told = "tired, " + branches + " branches, vigour " + vigour;
        Due.same(told, x.pass(1), 2L * due);
        Due.same(told + ", tired then", x.tree(0, 0, 4), due >= 20 ? 1 : 0);
    }

    private static void bearingTired() {
        Due.sentence("Step 2", "a tired one branches * vigour / 4");
        tiredBears(3, 1, 0);
        tiredBears(4, 1, 1);
        tiredBears(5, 1, 1);
        tiredBears(7, 1, 1);
        tiredBears(4, 2, 2);
        tiredBears(3, 5, 3);
        tiredBears(9, 5, 11);
        TwinOrchard x = Orchards.grown(7, 9);
        x.pass(1);
        Due.same("81 / 4", x.pass(1), 2 * 20);
        TwinOrchard y = Orchards.grown(7, 8);
        y.pass(1);
        Due.same("72 / 4", y.pass(1), 2 * 18);
    }

    private static void withoutBranches() {
        Due.sentence("Step 2", "(a tree without branches none)");
        TwinOrchard x = Orchards.grown(1, 9);
        x.prune(0, 0, 1);
        Due.same("rested, now", x.tree(0, 0, 5), 0);
        Due.same("rested", x.pass(1), 0);
        Due.same("still rested", x.tree(0, 0, 4), 0);
        tiredBears(9, 0, 0);
    }

    private static void barnBySorts() {
        Due.sentence("Step 2", "They come into the barn, by sorts.");
        TwinOrchard x = new TwinOrchard();
        x.plant(0, 0, 0, 1);
        x.plant(0, 1, 5, 9);
        Due.same("pass(1)", x.pass(1), 20);
        int[] due = {2, 0, 0, 0, 0, 18};
        for (int sort = 0; sort <= 5; sort++) {
            Due.same("sort(" + sort + ", 2)", x.sort(sort, 2), due[sort]);
        }
        x.graft(0, 1, 4);
        x.pass(1);
        Due.same("grafted, they come to the new sort", x.sort(4, 2), 18);
        Due.same("and the old one keeps its own", x.sort(5, 2), 18);
    }

    private static void twentyTires() {
        Due.sentence("Step 2", "One that bore 20 or more is tired from now on, any other one is rested.");
        int[][] rested = {{2, 9, 18, 0}, {9, 2, 18, 0}, {4, 5, 20, 1}, {5, 4, 20, 1}, {3, 7, 21, 1}, {9, 9, 81, 1}, {1, 1, 1, 0}};
        for (int[] tree : rested) {
            TwinOrchard x = Orchards.grown(tree[0], tree[1]);
            Due.same("apples", x.pass(1), 2L * tree[2]);
            Due.same("tired by " + tree[2], x.tree(0, 0, 4), tree[3]);
            Due.same("count(4) by " + tree[2], x.count(4), 2L * tree[3]);
        }
        TwinOrchard y = Orchards.grown(7, 9);
        y.pass(1);
        Due.same("tired", y.tree(0, 0, 4), 1);
        Due.same("tired, it bears 20", y.pass(1), 40);
        Due.same("which tires it anew", y.tree(0, 0, 4), 1);
        TwinOrchard z = Orchards.grown(7, 8);
        z.pass(1);
        Due.same("tired too", z.tree(0, 0, 4), 1);
        Due.same("tired, it bears 18", z.pass(1), 36);
        Due.same("which rests it", z.tree(0, 0, 4), 0);
        TwinOrchard u = Orchards.tired();
        u.setSort(0, 3, 0);
        Orchards.frostNow(u, 9);
        Due.same("tired, it bears none", u.pass(1), 0);
        Due.same("which rests it too", u.tree(0, 7, 4), 0);
    }

    private static void grows(int branches, int vigour, int due) {
        TwinOrchard x = Orchards.grown(branches, vigour);
        x.pass(1);
        Due.same(branches + " branches, vigour " + vigour, x.tree(0, 0, 1), due);
    }

    private static void growingByOne() {
        Due.sentence("Step 3", "each tree with fewer than 9 branches gets one more");
        grows(1, 1, 2);
        grows(7, 6, 8);
        grows(8, 6, 9);
        grows(8, 1, 9);
        grows(9, 1, 9);
        grows(9, 6, 9);
        TwinOrchard x = Orchards.grown(1, 6);
        x.prune(0, 0, 1);
        x.pass(1);
        Due.same("0 branches, vigour 6", x.tree(0, 0, 1), 1);
    }

    private static void growingByTwo() {
        Due.sentence("Step 3", "with a vigour of 7 or more two more in all (at most 9)");
        for (int vigour = 7; vigour <= 9; vigour++) {
            grows(1, vigour, 3);
            grows(6, vigour, 8);
            grows(7, vigour, 9);
            grows(8, vigour, 9);
            grows(9, vigour, 9);
            TwinOrchard x = Orchards.grown(1, vigour);
            x.prune(0, 0, 1);
            x.pass(1);
            Due.same("0 branches, vigour " + vigour, x.tree(0, 0, 1), 2);
        }
        grows(1, 6, 2);
    }

    private static void newYear() {
        Due.sentence("Step 4", "Both twins have a strength of 20 again; the year is 1 greater.");
        for (int years : STEP_YEARS) {
            TwinOrchard x = Orchards.withStrength(0);
            x.pass(years);
            Due.same("the left twin behind pass(" + years + ")", x.count(1), 20);
            Due.same("the right twin behind pass(" + years + ")", x.count(2), 20);
            Due.same("the year behind pass(" + years + ")", x.count(0), 8 + years);
        }
    }

    private static void orderOfSteps() {
        Due.sentence("Terms", "A year goes like this:");
        TwinOrchard x = Orchards.grown(9, 1);
        Orchards.frostNow(x, 6);
        Due.same("it freezes before it bears", x.pass(1), 2 * 7);
        TwinOrchard y = Orchards.grown(1, 1);
        Due.same("it bears before it grows", y.pass(1), 2);
        TwinOrchard z = Orchards.grown(1, 1);
        z.setSort(0, 3, 0);
        Orchards.frostNow(z, 1);
        z.pass(1);
        Due.same("it freezes before it grows", z.tree(0, 0, 1), 1);
        TwinOrchard u = new TwinOrchard();
        u.plant(0, 0, 0, 1);
        u.setFrost(1, 9);
        Due.same("the frost of the year that begins, not of the next one", u.pass(1), 2);
    }

    private static void lastCalls() {
        Due.sentence("What it is", "An object is used for at most 512 calls after it has been made");
        // 8 is the vigour that bears most: 72 and 18 by turns.
        TwinOrchard x = Orchards.full(8, 6);
        for (int sort = 0; sort <= 5; sort++) {
            x.setSort(sort, 9, 4);
        }
        long apples = x.count(5);
        int calls = 20 + 4 + 6 + 1;
        while (calls < 510) {
            apples += x.pass(30);
            calls++;
        }
        Due.same("call 511: apples in the barn", x.count(5), apples);
        Due.same("call 512: their weight", x.count(6), 9 * apples);
    }
}
