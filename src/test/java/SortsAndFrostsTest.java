/** Promises 1 to 3: a new object, setSort, setFrost. */
public final class SortsAndFrostsTest {
    private static final Class<?> INDEX = IndexOutOfBoundsException.class;
    private static final Class<?> ARGUMENT = IllegalArgumentException.class;

    public static void main(String[] args) {
        promise1NewObject();
        promise2SetSort();
        promise2WrongInputs();
        promise3SetFrost();
        promise3WrongInputs();
        Due.end();
    }

    private static void promise1NewObject() {
        TwinOrchard x = new TwinOrchard();
        int[] counts = {0, 20, 20, 0, 0, 0, 0, 0};
        for (int what = 0; what < counts.length; what++) {
            Due.same("new count(" + what + ")", x.count(what), counts[what]);
        }
        int[] sorts = {3, 4, 0, 0};
        for (int sort = 0; sort < 6; sort++) {
            for (int what = 0; what < sorts.length; what++) {
                Due.same("new sort(" + sort + ", " + what + ")", x.sort(sort, what), sorts[what]);
            }
        }
        int[] trees = {0, 0, 0, -1, 0, 0};
        for (int row = 0; row < 5; row++) {
            for (int place = 0; place < 8; place++) {
                for (int what = 0; what < trees.length; what++) {
                    Due.same("new tree(" + row + ", " + place + ", " + what + ")", x.tree(row, place, what), trees[what]);
                }
            }
            Due.same("new leans(" + row + ")", x.leans(row), 0);
        }
        Due.same("new tilt()", x.tilt(), 0);
        Due.same("new balance()", x.balance(), 0);
        Due.sameMean("new mean()", x.mean(), 0.0);
        for (int year = 0; year < 10; year++) {
            Due.same("new setFrost(" + year + ", 0)", x.setFrost(year, 0), 0);
        }
        TwinOrchard other = new TwinOrchard();
        other.plant(0, 0, 0, 9);
        Due.same("two objects share nothing", x.count(3), 0);
    }

    private static void promise2SetSort() {
        TwinOrchard x = new TwinOrchard();
        Due.same("setSort(0, 1, 0)", x.setSort(0, 1, 0), 34);
        Due.same("setSort(0, 9, 9)", x.setSort(0, 9, 9), 10);
        Due.same("setSort(0, 2, 3)", x.setSort(0, 2, 3), 99);
        Due.same("sort(0, 0)", x.sort(0, 0), 2);
        Due.same("sort(0, 1)", x.sort(0, 1), 3);
        Due.same("setSort(5, 9, 0)", x.setSort(5, 9, 0), 34);
        Due.same("sort(5, 0)", x.sort(5, 0), 9);
        Due.same("sort(5, 1)", x.sort(5, 1), 0);
        Due.same("another sort keeps its weight", x.sort(4, 0), 3);
        Due.same("another sort keeps what it bears", x.sort(1, 1), 4);
    }

    private static void promise2WrongInputs() {
        TwinOrchard x = new TwinOrchard();
        Due.thrown("setSort(-1, 1, 0)", x, INDEX, () -> x.setSort(-1, 1, 0));
        Due.thrown("setSort(6, 1, 0)", x, INDEX, () -> x.setSort(6, 1, 0));
        Due.thrown("setSort(MIN, 0, 0)", x, INDEX, () -> x.setSort(Integer.MIN_VALUE, 0, 0));
        Due.thrown("setSort(6, 0, 10)", x, INDEX, () -> x.setSort(6, 0, 10));
        Due.thrown("setSort(0, 0, 0)", x, ARGUMENT, () -> x.setSort(0, 0, 0));
        Due.thrown("setSort(0, 10, 0)", x, ARGUMENT, () -> x.setSort(0, 10, 0));
        Due.thrown("setSort(0, 1, -1)", x, ARGUMENT, () -> x.setSort(0, 1, -1));
        Due.thrown("setSort(0, 1, 10)", x, ARGUMENT, () -> x.setSort(0, 1, 10));
    }

    private static void promise3SetFrost() {
        TwinOrchard x = new TwinOrchard();
        Due.same("setFrost(0, 9)", x.setFrost(0, 9), 0);
        Due.same("setFrost(0, 1)", x.setFrost(0, 1), 9);
        Due.same("setFrost(0, 0)", x.setFrost(0, 0), 1);
        Due.same("setFrost(9, 5)", x.setFrost(9, 5), 0);
        Due.same("setFrost(9, 6)", x.setFrost(9, 6), 5);
        Due.same("setFrost(8, 0)", x.setFrost(8, 0), 0);
        Due.same("the year stays", x.count(0), 0);
    }

    private static void promise3WrongInputs() {
        TwinOrchard x = new TwinOrchard();
        Due.thrown("setFrost(-1, 0)", x, INDEX, () -> x.setFrost(-1, 0));
        Due.thrown("setFrost(10, 0)", x, INDEX, () -> x.setFrost(10, 0));
        Due.thrown("setFrost(10, 10)", x, INDEX, () -> x.setFrost(10, 10));
        Due.thrown("setFrost(0, -1)", x, ARGUMENT, () -> x.setFrost(0, -1));
        Due.thrown("setFrost(9, 10)", x, ARGUMENT, () -> x.setFrost(9, 10));
        Due.thrown("setFrost(0, MAX)", x, ARGUMENT, () -> x.setFrost(0, Integer.MAX_VALUE));
    }
}
