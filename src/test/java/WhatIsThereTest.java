/** Promises 8 to 11: tree, sort, count, leans. */
public final class WhatIsThereTest {
    private static final Class<?> INDEX = IndexOutOfBoundsException.class;

    public static void main(String[] args) {
        promise8Tree();
        promise8WrongInputs();
        promise9Sort();
        promise9WrongInputs();
        promise10Count();
        promise10WrongInputs();
        promise11Leans();
        promise11WrongInputs();
        Due.end();
    }

    /** Row 0: sort 2, vigour 9, tired, 5 branches; row 4: sort 5, vigour 3, rested, 3 branches. */
    private static TwinOrchard planted() {
        TwinOrchard x = new TwinOrchard();
        x.plant(0, 0, 2, 9);
        x.plant(4, 3, 5, 3);
        x.pass(2);
        return x;
    }

    private static void tree(TwinOrchard x, int row, int place, int... due) {
        for (int what = 0; what < due.length; what++) {
            Due.same("tree(" + row + ", " + place + ", " + what + ")", x.tree(row, place, what), due[what]);
        }
    }

    private static void promise8Tree() {
        TwinOrchard x = planted();
        tree(x, 0, 0, 1, 5, 9, 2, 1, 11);
        tree(x, 0, 7, 1, 5, 9, 2, 1, 11);
        tree(x, 4, 3, 1, 3, 3, 5, 0, 9);
        tree(x, 4, 4, 1, 3, 3, 5, 0, 9);
        tree(x, 0, 1, 0, 0, 0, -1, 0, 0);
        tree(x, 4, 7, 0, 0, 0, -1, 0, 0);
        tree(x, 3, 3, 0, 0, 0, -1, 0, 0);
        x.setFrost(2, 9);
        Due.same("no frost in what it would bear now", x.tree(4, 3, 5), 9);
    }

    private static void promise8WrongInputs() {
        TwinOrchard x = planted();
        Due.thrown("tree(-1, 0, 0)", x, INDEX, () -> x.tree(-1, 0, 0));
        Due.thrown("tree(5, 0, 0)", x, INDEX, () -> x.tree(5, 0, 0));
        Due.thrown("tree(0, -1, 0)", x, INDEX, () -> x.tree(0, -1, 0));
        Due.thrown("tree(0, 8, 0)", x, INDEX, () -> x.tree(0, 8, 0));
        Due.thrown("tree(0, 0, -1)", x, INDEX, () -> x.tree(0, 0, -1));
        Due.thrown("tree(0, 0, 6)", x, INDEX, () -> x.tree(0, 0, 6));
    }

    private static void sort(TwinOrchard x, int sort, int... due) {
        for (int what = 0; what < due.length; what++) {
            Due.same("sort(" + sort + ", " + what + ")", x.sort(sort, what), due[what]);
        }
    }

    private static void promise9Sort() {
        TwinOrchard x = planted();
        x.setSort(5, 8, 1);
        sort(x, 2, 3, 4, 2 * (9 + 27), 2);
        sort(x, 5, 8, 1, 2 * (3 + 6), 2);
        sort(x, 0, 3, 4, 0, 0);
        x.plant(1, 1, 5, 1);
        sort(x, 5, 8, 1, 18, 4);
        x.carry(5, 3, 4);
        sort(x, 5, 8, 1, 11, 4);
    }

    private static void promise9WrongInputs() {
        TwinOrchard x = planted();
        Due.thrown("sort(-1, 0)", x, INDEX, () -> x.sort(-1, 0));
        Due.thrown("sort(6, 0)", x, INDEX, () -> x.sort(6, 0));
        Due.thrown("sort(0, -1)", x, INDEX, () -> x.sort(0, -1));
        Due.thrown("sort(5, 4)", x, INDEX, () -> x.sort(5, 4));
    }

    private static void promise10Count() {
        TwinOrchard x = planted();
        x.setSort(5, 8, 1);
        x.prune(4, 3, 1);
        int[] due = {2, 18, 18, 4, 2, 72 + 18, 72 * 3 + 18 * 8, 0};
        for (int what = 0; what < due.length; what++) {
            Due.same("count(" + what + ")", x.count(what), due[what]);
        }
    }

    private static void promise10WrongInputs() {
        TwinOrchard x = planted();
        Due.thrown("count(-1)", x, INDEX, () -> x.count(-1));
        Due.thrown("count(8)", x, INDEX, () -> x.count(8));
        Due.thrown("count(MIN)", x, INDEX, () -> x.count(Integer.MIN_VALUE));
    }

    private static void promise11Leans() {
        TwinOrchard x = planted();
        for (int row = 0; row < 5; row++) {
            Due.same("leans(" + row + ")", x.leans(row), 0);
        }
    }

    private static void promise11WrongInputs() {
        TwinOrchard x = planted();
        Due.thrown("leans(-1)", x, INDEX, () -> x.leans(-1));
        Due.thrown("leans(5)", x, INDEX, () -> x.leans(5));
    }
}
