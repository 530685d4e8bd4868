/** Promises 4 to 7: plant, prune, graft, fell. */
public final class WorksTest {
    private static final Class<?> INDEX = IndexOutOfBoundsException.class;
    private static final Class<?> ARGUMENT = IllegalArgumentException.class;

    public static void main(String[] args) {
        promise4Plant();
        promise4StrengthGivesOut();
        promise4WrongInputs();
        promise5Prune();
        promise5StrengthGivesOut();
        promise5WrongInputs();
        promise6Graft();
        promise6StrengthGivesOut();
        promise6WrongInputs();
        promise7Fell();
        promise7StrengthGivesOut();
        promise7WrongInputs();
        Due.end();
    }

    /** What tree() tells at the place and at its mirror, in its order. */
    private static void pair(TwinOrchard x, int row, int place, int... due) {
        for (int what = 0; what < due.length; what++) {
            int mirror = 7 - place;
            Due.same("tree(" + row + ", " + place + ", " + what + ")", x.tree(row, place, what), due[what]);
            Due.same("tree(" + row + ", " + mirror + ", " + what + ")", x.tree(row, mirror, what), due[what]);
        }
    }

    private static void strengths(TwinOrchard x, int due) {
        Due.same("count(1)", x.count(1), due);
        Due.same("count(2)", x.count(2), due);
    }

    private static void promise4Plant() {
        TwinOrchard x = new TwinOrchard();
        Due.same("plant(0, 0, 0, 1)", x.plant(0, 0, 0, 1), 3);
        pair(x, 0, 0, 1, 1, 1, 0, 0, 1);
        strengths(x, 15);
        Due.same("plant(4, 4, 5, 9)", x.plant(4, 4, 5, 9), 3);
        pair(x, 4, 4, 1, 1, 9, 5, 0, 9);
        strengths(x, 10);
        Due.same("plant where trees stand", x.plant(0, 7, 3, 4), 0);
        pair(x, 0, 7, 1, 1, 1, 0, 0, 1);
        strengths(x, 10);
        Due.same("trees", x.count(3), 4);
        TwinOrchard y = Orchards.tired();
        y.fell(0, 0);
        Due.same("plant where tired trees stood", y.plant(0, 0, 2, 4), 3);
        pair(y, 0, 0, 1, 1, 4, 2, 0, 4);
    }

    private static void promise4StrengthGivesOut() {
        TwinOrchard x = new TwinOrchard();
        for (int row = 0; row < 4; row++) {
            Due.same("plant(" + row + ", 3, 1, 2)", x.plant(row, 3, 1, 2), 3);
        }
        strengths(x, 0);
        Due.same("plant without strength", x.plant(4, 3, 1, 2), 0);
        pair(x, 4, 3, 0, 0, 0, -1, 0, 0);
        TwinOrchard y = Orchards.tired();
        for (int cut = 0; cut < 4; cut++) {
            y.prune(0, 0, 1);
        }
        y.graft(0, 0, 1);
        y.graft(0, 0, 2);
        strengths(y, 4);
        Due.same("plant with 4", y.plant(1, 0, 0, 1), 0);
        strengths(y, 4);
    }

    private static void promise4WrongInputs() {
        TwinOrchard x = Orchards.tired();
        Due.thrown("plant(-1, 0, 0, 1)", x, INDEX, () -> x.plant(-1, 0, 0, 1));
        Due.thrown("plant(5, 0, 0, 1)", x, INDEX, () -> x.plant(5, 0, 0, 1));
        Due.thrown("plant(1, -1, 0, 1)", x, INDEX, () -> x.plant(1, -1, 0, 1));
        Due.thrown("plant(1, 8, 0, 1)", x, INDEX, () -> x.plant(1, 8, 0, 1));
        Due.thrown("plant(1, 8, 6, 0)", x, INDEX, () -> x.plant(1, 8, 6, 0));
        Due.thrown("plant(MAX, MAX, 0, 1)", x, INDEX, () -> x.plant(Integer.MAX_VALUE, Integer.MAX_VALUE, 0, 1));
        Due.thrown("plant(1, 0, -1, 1)", x, ARGUMENT, () -> x.plant(1, 0, -1, 1));
        Due.thrown("plant(1, 0, 6, 1)", x, ARGUMENT, () -> x.plant(1, 0, 6, 1));
        Due.thrown("plant(1, 0, 0, 0)", x, ARGUMENT, () -> x.plant(1, 0, 0, 0));
        Due.thrown("plant(1, 0, 0, 10)", x, ARGUMENT, () -> x.plant(1, 0, 0, 10));
        Due.thrown("plant(0, 0, 0, 10) where a tree stands", x, ARGUMENT, () -> x.plant(0, 0, 0, 10));
    }

    private static void promise5Prune() {
        TwinOrchard x = Orchards.tired();
        Due.same("prune of more than there are", x.prune(0, 0, 6), 0);
        pair(x, 0, 0, 1, 5, 9, 0, 1, 11);
        Due.same("prune(0, 0, 2)", x.prune(0, 0, 2), 3);
        pair(x, 0, 0, 1, 3, 9, 0, 0, 27);
        strengths(x, 18);
        Due.same("prune of all", x.prune(0, 7, 3), 3);
        pair(x, 0, 0, 1, 0, 9, 0, 0, 0);
        strengths(x, 16);
        Due.same("prune without branches", x.prune(0, 0, 1), 0);
        Due.same("prune without a tree", x.prune(1, 1, 1), 0);
        strengths(x, 16);
        TwinOrchard y = new TwinOrchard();
        y.plant(3, 2, 1, 1);
        y.pass(8);
        Due.same("prune of 9", y.prune(3, 5, 9), 3);
        pair(y, 3, 2, 1, 0, 1, 1, 0, 0);
    }

    private static void promise5StrengthGivesOut() {
        TwinOrchard x = new TwinOrchard();
        x.plant(0, 0, 0, 1);
        x.plant(1, 0, 0, 1);
        x.plant(2, 0, 0, 1);
        x.prune(0, 0, 1);
        x.prune(1, 0, 1);
        strengths(x, 1);
        Due.same("prune with 1", x.prune(2, 0, 1), 0);
        pair(x, 2, 0, 1, 1, 1, 0, 0, 1);
        strengths(x, 1);
        TwinOrchard y = new TwinOrchard();
        y.plant(0, 0, 0, 1);
        y.plant(1, 0, 0, 1);
        y.graft(0, 0, 1);
        y.graft(0, 0, 2);
        strengths(y, 2);
        Due.same("prune with 2", y.prune(1, 0, 1), 3);
        strengths(y, 0);
    }

    private static void promise5WrongInputs() {
        TwinOrchard x = Orchards.tired();
        Due.thrown("prune(-1, 0, 1)", x, INDEX, () -> x.prune(-1, 0, 1));
        Due.thrown("prune(5, 0, 1)", x, INDEX, () -> x.prune(5, 0, 1));
        Due.thrown("prune(0, -1, 1)", x, INDEX, () -> x.prune(0, -1, 1));
        Due.thrown("prune(0, 8, 0)", x, INDEX, () -> x.prune(0, 8, 0));
        Due.thrown("prune(0, 0, 0)", x, ARGUMENT, () -> x.prune(0, 0, 0));
        Due.thrown("prune(0, 0, -1)", x, ARGUMENT, () -> x.prune(0, 0, -1));
        Due.thrown("prune(0, 0, 10)", x, ARGUMENT, () -> x.prune(0, 0, 10));
        Due.thrown("prune(1, 0, 10) without a tree", x, ARGUMENT, () -> x.prune(1, 0, 10));
    }

    private static void promise6Graft() {
        TwinOrchard x = Orchards.tired();
        Due.same("graft with the own sort", x.graft(0, 0, 0), 0);
        strengths(x, 20);
        Due.same("graft(0, 7, 3)", x.graft(0, 7, 3), 3);
        pair(x, 0, 0, 1, 2, 9, 3, 1, 4);
        strengths(x, 16);
        Due.same("graft(0, 0, 5)", x.graft(0, 0, 5), 3);
        pair(x, 0, 0, 1, 1, 9, 5, 1, 2);
        Due.same("graft of one branch", x.graft(0, 0, 0), 3);
        pair(x, 0, 0, 1, 1, 9, 0, 1, 2);
        Due.same("trees of the sort", x.sort(0, 3), 2);
        Due.same("trees of the sort before", x.sort(5, 3), 0);
        strengths(x, 8);
        x.prune(0, 0, 1);
        Due.same("graft without branches", x.graft(0, 0, 1), 0);
        Due.same("graft without a tree", x.graft(1, 0, 1), 0);
        pair(x, 0, 0, 1, 0, 9, 0, 0, 0);
        strengths(x, 6);
        TwinOrchard y = new TwinOrchard();
        y.plant(0, 0, 0, 2);
        y.setSort(1, 3, 0);
        y.graft(0, 0, 1);
        y.setFrost(0, 4);
        Due.same("the new sort freezes", y.pass(1), 0);
    }

    private static void promise6StrengthGivesOut() {
        TwinOrchard x = Orchards.tired();
        for (int sort = 1; sort <= 5; sort++) {
            Due.same("graft(0, 0, " + sort + ")", x.graft(0, 0, sort), 3);
        }
        strengths(x, 0);
        TwinOrchard y = Orchards.tired();
        y.plant(1, 0, 0, 1);
        y.fell(0, 0);
        y.fell(1, 0);
        strengths(y, 3);
        Due.same("graft with 3 needs a tree", y.graft(0, 0, 1), 0);
        TwinOrchard z = Orchards.tired();
        z.plant(1, 0, 0, 1);
        z.plant(2, 0, 0, 1);
        z.plant(3, 0, 0, 1);
        z.prune(1, 0, 1);
        strengths(z, 3);
        Due.same("graft with 3", z.graft(0, 0, 1), 0);
        pair(z, 0, 0, 1, 5, 9, 0, 1, 11);
        strengths(z, 3);
    }

    private static void promise6WrongInputs() {
        TwinOrchard x = Orchards.tired();
        Due.thrown("graft(-1, 0, 1)", x, INDEX, () -> x.graft(-1, 0, 1));
        Due.thrown("graft(5, 0, 1)", x, INDEX, () -> x.graft(5, 0, 1));
        Due.thrown("graft(0, -1, 1)", x, INDEX, () -> x.graft(0, -1, 1));
        Due.thrown("graft(0, 8, 6)", x, INDEX, () -> x.graft(0, 8, 6));
        Due.thrown("graft(0, 0, -1)", x, ARGUMENT, () -> x.graft(0, 0, -1));
        Due.thrown("graft(0, 0, 6)", x, ARGUMENT, () -> x.graft(0, 0, 6));
    }

    private static void promise7Fell() {
        TwinOrchard x = Orchards.tired();
        Due.same("fell(0, 7)", x.fell(0, 7), 3);
        pair(x, 0, 0, 0, 0, 0, -1, 0, 0);
        strengths(x, 14);
        Due.same("no trees", x.count(3), 0);
        Due.same("no tired trees", x.count(4), 0);
        Due.same("the apples stay", x.count(5), 72);
        Due.same("fell without a tree", x.fell(0, 0), 0);
        strengths(x, 14);
    }

    private static void promise7StrengthGivesOut() {
        TwinOrchard x = new TwinOrchard();
        for (int row = 0; row < 4; row++) {
            x.plant(row, 1, 0, 1);
        }
        x.pass(1);
        Due.same("fell(0, 1)", x.fell(0, 1), 3);
        Due.same("fell(1, 1)", x.fell(1, 1), 3);
        x.prune(2, 1, 1);
        strengths(x, 6);
        Due.same("fell with 6", x.fell(2, 1), 3);
        strengths(x, 0);
        TwinOrchard y = new TwinOrchard();
        y.plant(0, 0, 0, 1);
        y.plant(1, 0, 0, 1);
        y.plant(2, 0, 0, 1);
        strengths(y, 5);
        Due.same("fell with 5", y.fell(0, 0), 0);
        pair(y, 0, 0, 1, 1, 1, 0, 0, 1);
        strengths(y, 5);
    }

    private static void promise7WrongInputs() {
        TwinOrchard x = Orchards.tired();
        Due.thrown("fell(-1, 0)", x, INDEX, () -> x.fell(-1, 0));
        Due.thrown("fell(5, 0)", x, INDEX, () -> x.fell(5, 0));
        Due.thrown("fell(0, -1)", x, INDEX, () -> x.fell(0, -1));
        Due.thrown("fell(0, 8)", x, INDEX, () -> x.fell(0, 8));
        Due.thrown("fell(MIN, MIN)", x, INDEX, () -> x.fell(Integer.MIN_VALUE, Integer.MIN_VALUE));
    }
}
