import java.lang.reflect.Field;

/**
 * Promises 4 to 8, 10, 11 and 17 where the halves differ. No run of calls leads there: both twins
 * begin alike and do alike, so this test reaches into the object's own rows to set them apart.
 */
public final class HalvesTest {
    public static void main(String[] args) throws ReflectiveOperationException {
        worksOfOneTwin();
        strengthOfOneTwin();
        differences();
        leaning();
        advice();
        placesOfOneTwin();
        costsOfOneTwin();
        boundsOfOneTree();
        allPairsDiffer();
        leaningMost();
        Due.end();
    }

    private interface Work {
        int done(TwinOrchard x, int place);
    }

    private static Object rowsOf(TwinOrchard x, String name) throws ReflectiveOperationException {
        Field field = TwinOrchard.class.getDeclaredField(name);
        field.setAccessible(true);
        return field.get(x);
    }

    private static void put(TwinOrchard x, String name, int at, int number) throws ReflectiveOperationException {
        ((int[]) rowsOf(x, name))[at] = number;
    }

    private static void tire(TwinOrchard x, int spot) throws ReflectiveOperationException {
        ((boolean[]) rowsOf(x, "tired"))[spot] = true;
    }

    private static void tree(TwinOrchard x, int spot, int sort, int vigour, int branches)
            throws ReflectiveOperationException {
        put(x, "kinds", spot, sort);
        put(x, "vigours", spot, vigour);
        put(x, "branches", spot, branches);
    }

    private static void worksOfOneTwin() throws ReflectiveOperationException {
        TwinOrchard x = new TwinOrchard();
        tree(x, 8, 2, 5, 4);
        Due.same("prune by that of the place", x.prune(1, 0, 1), 1);
        Due.same("prune by the other one", x.prune(1, 7, 1), 2);
        Due.same("the left twin pruned", x.count(1), 16);
        Due.same("the right twin rested", x.count(2), 20);
        Due.same("graft by that of the place", x.graft(1, 0, 1), 1);
        Due.same("graft by the other one", x.graft(1, 7, 2), 2);
        Due.same("plant by that of the place", x.plant(1, 7, 0, 1), 1);
        Due.same("the right twin planted", x.count(2), 15);
        Due.same("the left twin did not", x.count(1), 8);
        TwinOrchard y = new TwinOrchard();
        tree(y, 15, 2, 5, 4);
        Due.same("plant by the other one", y.plant(1, 7, 0, 1), 2);
        Due.same("tree(1, 0, 1)", y.tree(1, 0, 1), 1);
        Due.same("tree(1, 7, 1)", y.tree(1, 7, 1), 4);
        TwinOrchard z = new TwinOrchard();
        tree(z, 15, 2, 5, 4);
        Due.same("fell by the other one", z.fell(1, 0), 2);
        tree(z, 15, 2, 5, 4);
        Due.same("fell by that of the place", z.fell(1, 7), 1);
        Due.same("the right twin felled", z.count(2), 8);
        tree(z, 8, 1, 5, 4);
        tree(z, 15, 2, 5, 4);
        Due.same("graft of the other sort alone", z.graft(1, 0, 1), 2);
    }

    private static void strengthOfOneTwin() throws ReflectiveOperationException {
        TwinOrchard x = new TwinOrchard();
        put(x, "strength", 0, 4);
        Due.same("plant without the left twin's strength", x.plant(0, 3, 0, 1), 2);
        Due.same("plant at a place of the right twin", x.plant(1, 4, 0, 1), 1);
        Due.same("the left twin's strength stays", x.count(1), 4);
        x.pass(1);
        Due.same("a new year", x.count(1), 20);
    }

    private static void differences() throws ReflectiveOperationException {
        TwinOrchard x = new TwinOrchard();
        x.plant(0, 0, 0, 1);
        x.plant(4, 3, 0, 1);
        Due.same("alike", x.count(7), 0);
        put(x, "branches", 7, 2);
        Due.same("branches differ", x.count(7), 1);
        put(x, "kinds", 36, 2);
        Due.same("sorts differ", x.count(7), 2);
        tree(x, 18, 0, 1, 0);
        Due.same("a tree without branches against none", x.count(7), 3);
        put(x, "branches", 7, 1);
        put(x, "vigours", 7, 9);
        tire(x, 7);
        Due.same("vigour and rest do not count", x.count(7), 2);
    }

    private static void leaning() throws ReflectiveOperationException {
        TwinOrchard x = new TwinOrchard();
        tree(x, 0, 0, 3, 4);
        tree(x, 3, 0, 1, 1);
        tree(x, 4, 0, 9, 9);
        tree(x, 7, 0, 5, 5);
        Due.same("leans(0)", x.leans(0), 12 + 1 - 81 - 25);
        tire(x, 4);
        Due.same("leans(0) with a tired tree", x.leans(0), 12 + 1 - 20 - 25);
        tree(x, 35, 0, 2, 4);
        Due.same("leans(4)", x.leans(4), 8);
        Due.same("leans(3)", x.leans(3), 0);
    }

    private static void advice() throws ReflectiveOperationException {
        TwinOrchard x = new TwinOrchard();
        tree(x, 15, 0, 9, 5);
        tire(x, 15);
        Due.same("a tree at the right alone", x.advise(1), 101);
        tree(x, 8, 0, 9, 1);
        Due.same("the right tree gains more than the left one loses", x.advise(1), 101);
        put(x, "branches", 15, 2);
        // Pruned by one, the right tree bears 9 for 4, the left one 0 for 9; pruned by two, none.
        Due.same("what is lost counts", x.advise(1), -1);
        put(x, "strength", 0, 1);
        Due.same("the right twin alone has strength", x.advise(1), 101);
        TwinOrchard y = new TwinOrchard();
        tree(y, 20, 0, 1, 2);
        tire(y, 20);
        Due.same("one apple more is more", y.advise(1), 231);
    }

    private static void placesOfOneTwin() throws ReflectiveOperationException {
        Due.sentence("Twins", "the left twin works at the places 0 to 3, the right one at 4 to 7");
        for (int place = 0; place <= 7; place++) {
            TwinOrchard x = new TwinOrchard();
            put(x, "strength", 0, 0);
            Due.same("the right twin alone, asked at " + place, x.plant(2, place, 0, 1), place <= 3 ? 2 : 1);
            Due.same("its tree", x.tree(2, Math.max(place, 7 - place), 0), 1);
            Due.same("no tree at the left", x.tree(2, Math.min(place, 7 - place), 0), 0);
            TwinOrchard y = new TwinOrchard();
            put(y, "strength", 1, 0);
            Due.same("the left twin alone, asked at " + place, y.plant(2, place, 0, 1), place <= 3 ? 1 : 2);
            Due.same("its tree", y.tree(2, Math.min(place, 7 - place), 0), 1);
            Due.same("no tree at the right", y.tree(2, Math.max(place, 7 - place), 0), 0);
        }
    }

    private static void costsOfOneTwin() throws ReflectiveOperationException {
        Due.sentence("Work", "each one for itself, if there it can be done, and the own strength is enough for its cost");
        costs("plant", 5, (x, place) -> x.plant(1, place, 1, 1));
        costs("prune", 2, (x, place) -> x.prune(0, place, 1));
        costs("graft", 4, (x, place) -> x.graft(0, place, 1));
        costs("fell", 6, (x, place) -> x.fell(0, place));
    }

    /** One twin has just the strength of the cost, the other one has one less. */
    private static void costs(String name, int cost, Work work) throws ReflectiveOperationException {
        int[] asked = {0, 7};
        for (int place : asked) {
            for (int able = 0; able <= 1; able++) {
                TwinOrchard x = Orchards.grown(9, 1);
                put(x, "strength", able, cost);
                put(x, "strength", 1 - able, cost - 1);
                boolean own = able == 0 == (place == 0);
                Due.same(name + " at " + place + " by the twin " + able, work.done(x, place), own ? 1 : 2);
                Due.same("the strength of the one that did it", x.count(1 + able), 0);
                Due.same("the strength of the other one", x.count(2 - able), cost - 1);
                Due.same("pairs that differ", x.count(7), 1);
            }
        }
    }

    private static void boundsOfOneTree() throws ReflectiveOperationException {
        Due.sentence("Work", "if there it can be done");
        TwinOrchard x = new TwinOrchard();
        tree(x, 16, 1, 2, 4);
        tree(x, 23, 1, 2, 3);
        Due.same("prune of 4 of 4, and of 3", x.prune(2, 0, 4), 1);
        Due.same("prune of 3 of 0, and of 3", x.prune(2, 0, 3), 2);
        Due.same("prune of 1 of 0, and of 0", x.prune(2, 0, 1), 0);
        put(x, "branches", 23, 1);
        Due.same("graft with no branch, and with one", x.graft(2, 7, 0), 1);
        put(x, "branches", 16, 9);
        Due.same("graft of another sort, and of the same", x.graft(2, 7, 0), 2);
        Due.same("half of 9", x.tree(2, 0, 1), 4);
        Due.same("fell of both", x.fell(2, 0), 3);
    }

    private static void allPairsDiffer() throws ReflectiveOperationException {
        Due.sentence("Promise 10", "7 pairs of a place and its mirror that differ: in that there is a tree, or in its sort or branches");
        TwinOrchard x = new TwinOrchard();
        for (int row = 0; row <= 4; row++) {
            for (int place = 0; place <= 3; place++) {
                tree(x, row * 8 + place, 0, 1, 0);
                Due.same("pairs that differ", x.count(7), row * 4 + place + 1);
            }
        }
        for (int row = 0; row <= 4; row++) {
            for (int place = 4; place <= 7; place++) {
                tree(x, row * 8 + place, 5, 1, 9);
            }
        }
        Due.same("all in their sort and branches", x.count(7), 20);
    }

    private static void leaningMost() throws ReflectiveOperationException {
        Due.sentence("Promise 11", "Returns the apples that its left half (places 0 to 3) would bear now, less those of its right half.");
        for (int row = 0; row <= 4; row++) {
            TwinOrchard x = new TwinOrchard();
            TwinOrchard y = new TwinOrchard();
            for (int place = 0; place <= 3; place++) {
                tree(x, row * 8 + place, 0, 9, 9);
                tree(y, row * 8 + 4 + place, 0, 9, 9);
            }
            Due.same("the left half full, the right one empty", x.leans(row), 324);
            Due.same("the right half full, the left one empty", y.leans(row), -324);
            Due.same("another row", x.leans((row + 1) % 5), 0);
            long due = y.digest();
            Due.same("leans() changes nothing", y.leans(row) + y.digest(), due - 324);
        }
    }
}
