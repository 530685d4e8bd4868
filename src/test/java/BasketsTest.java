/** Promises 12 to 14: carry, tilt, balance. */
public final class BasketsTest {
    private static final Class<?> INDEX = IndexOutOfBoundsException.class;
    private static final Class<?> ARGUMENT = IllegalArgumentException.class;
    private static final Class<?> STATE = IllegalStateException.class;

    public static void main(String[] args) {
        promise12Carry();
        promise12MostApples();
        promise12WrongInputs();
        promise13Tilt();
        promise14OneSort();
        promise14SeveralSorts();
        promise14NothingChanged();
        Due.end();
    }

    private static void promise12Carry() {
        TwinOrchard x = Orchards.withApples(18, 0, 5);
        Due.same("carry(0, 10, 3)", x.carry(0, 10, 3), 5);
        Due.same("sort(0, 2)", x.sort(0, 2), 5);
        Due.same("another sort stays", x.sort(2, 2), 5);
        Due.same("carry(0, 0, 1)", x.carry(0, 0, 1), 4);
        Due.same("carry(0, 1, 0)", x.carry(0, 1, 0), 3);
        Due.same("carry of all", x.carry(0, 1, 2), 0);
        Due.same("the year stays, and strength", x.count(1), 20);
    }

    private static void promise12MostApples() {
        TwinOrchard x = Orchards.withApples(401);
        Due.same("carry(0, 200, 200)", x.carry(0, 200, 200), 1);
        TwinOrchard y = Orchards.withApples(0, 0, 0, 0, 0, 200);
        Due.same("carry(5, 0, 200)", y.carry(5, 0, 200), 0);
    }

    private static void promise12WrongInputs() {
        TwinOrchard x = Orchards.withApples(18);
        Due.thrown("carry(-1, 1, 1)", x, INDEX, () -> x.carry(-1, 1, 1));
        Due.thrown("carry(6, 1, 1)", x, INDEX, () -> x.carry(6, 1, 1));
        Due.thrown("carry(6, 201, 1)", x, INDEX, () -> x.carry(6, 201, 1));
        Due.thrown("carry(0, -1, 2)", x, ARGUMENT, () -> x.carry(0, -1, 2));
        Due.thrown("carry(0, 2, -1)", x, ARGUMENT, () -> x.carry(0, 2, -1));
        Due.thrown("carry(0, 1, -1)", x, ARGUMENT, () -> x.carry(0, 1, -1));
        Due.thrown("carry(0, 201, 0)", x, ARGUMENT, () -> x.carry(0, 201, 0));
        Due.thrown("carry(0, 0, 201)", x, ARGUMENT, () -> x.carry(0, 0, 201));
        Due.thrown("carry(0, MAX, MAX)", x, ARGUMENT, () -> x.carry(0, Integer.MAX_VALUE, Integer.MAX_VALUE));
        Due.thrown("carry(0, 0, 0)", x, ARGUMENT, () -> x.carry(0, 0, 0));
        Due.thrown("carry(1, 0, 0) of none", x, ARGUMENT, () -> x.carry(1, 0, 0));
        Due.thrown("carry(0, 19, 0)", x, STATE, () -> x.carry(0, 19, 0));
        Due.thrown("carry(0, 9, 10)", x, STATE, () -> x.carry(0, 9, 10));
        Due.thrown("carry(1, 0, 1)", x, STATE, () -> x.carry(1, 0, 1));
    }

    private static void promise13Tilt() {
        TwinOrchard x = Orchards.withApples(100, 100);
        int before = x.tilt();
        x.carry(0, 10, 4);
        Due.same("tilt by weight 3", x.tilt() - before, 18);
        x.setSort(0, 9, 4);
        Due.same("what was carried keeps its weight", x.tilt() - before, 18);
        x.carry(0, 1, 5);
        Due.same("tilt by weight 9", x.tilt() - before, 18 - 36);
        x.carry(1, 7, 7);
        Due.same("tilt of like baskets", x.tilt() - before, 18 - 36);
        x.pass(1);
        Due.same("tilt in a new year", x.tilt() - before, 18 - 36);
        Due.thrown("carry of too many", x, STATE, () -> x.carry(0, 100, 0));
        Due.same("tilt behind it", x.tilt() - before, 18 - 36);
    }

    private static void promise14OneSort() {
        Due.same("balance of none", new TwinOrchard().balance(), 0);
        Due.same("balance of 1", Orchards.withApples(1).balance(), 3);
        Due.same("balance of 2", Orchards.withApples(2).balance(), 0);
        Due.same("balance of 19", Orchards.withApples(19).balance(), 3);
        Due.same("balance of 20", Orchards.withApples(20).balance(), 0);
        Due.same("balance of 21, of which 20 are taken", Orchards.withApples(21).balance(), 0);
        TwinOrchard x = Orchards.withApples(0, 0, 0, 0, 0, 7);
        x.setSort(5, 9, 4);
        Due.same("balance of 7, weight 9", x.balance(), 9);
    }

    private static void promise14SeveralSorts() {
        TwinOrchard w = Orchards.withApples(1, 1);
        w.setSort(0, 9, 0);
        w.setSort(1, 2, 0);
        Due.same("9 against 2, of which there is one", w.balance(), 7);
        TwinOrchard x = Orchards.withApples(1, 3);
        x.setSort(0, 9, 0);
        x.setSort(1, 2, 0);
        Due.same("9 against 2 2 2", x.balance(), 3);
        TwinOrchard y = Orchards.withApples(1, 3, 1);
        y.setSort(0, 9, 0);
        y.setSort(1, 2, 0);
        y.setSort(2, 4, 0);
        Due.same("9 against 2 2 2 4, or 9 2 against 2 2 4", y.balance(), 1);
        TwinOrchard z = Orchards.withApples(1, 25, 2);
        z.setSort(0, 1, 0);
        z.setSort(1, 8, 0);
        z.setSort(2, 6, 0);
        Due.same("1 against much that is even", z.balance(), 1);
        TwinOrchard u = Orchards.withApples(1, 1, 1, 1, 1, 1);
        int[] weights = {9, 9, 9, 8, 8, 8};
        for (int sort = 0; sort < weights.length; sort++) {
            u.setSort(sort, weights[sort], 0);
        }
        Due.same("9 9 8 against 9 8 8", u.balance(), 1);
        TwinOrchard v = Orchards.withApples(20, 20, 20, 20, 20, 20);
        for (int sort = 0; sort < 6; sort++) {
            v.setSort(sort, 9, 0);
        }
        Due.same("all that can be taken", v.balance(), 0);
        v.carry(3, 1, 0);
        Due.same("one less than all", v.balance(), 9);
    }

    private static void promise14NothingChanged() {
        TwinOrchard x = Orchards.withApples(30, 3);
        long before = x.digest();
        x.balance();
        Due.same("digest behind balance()", x.digest(), before);
        Due.same("balance() again", x.balance(), 3);
        Due.same("balance() once more", x.balance(), 3);
    }
}
