import java.lang.reflect.Field;

/**
 * Promises 4 to 8, 10, 11 and 17 where the halves differ. No run of calls leads there: both twins
 * begin alike and do alike, so this test reaches into the object's own rows to set them apart.
 */
public final class HalvesTest {
    public static void main(String[] args) throws ReflectiveOperationException {
        worksOfOneTwin();
        strengthOfOneTwin();
        differences();
        leaning();
        advice();
        Due.end();
    }

    private static Object rowsOf(TwinOrchard x, String name) throws ReflectiveOperationException {
        Field field = TwinOrchard.class.getDeclaredField(name);
        field.setAccessible(true);
        return field.get(x);
    }

    private static void put(TwinOrchard x, String name, int at, int number) throws ReflectiveOperationException {
        ((int[]) rowsOf(x, name))[at] = number;
    }

    private static void tire(TwinOrchard x, int spot) throws ReflectiveOperationException {
        ((boolean[]) rowsOf(x, "tired"))[spot] = true;
    }

    private static void tree(TwinOrchard x, int spot, int sort, int vigour, int branches)
            throws ReflectiveOperationException {
        put(x, "kinds", spot, sort);
        put(x, "vigours", spot, vigour);
        put(x, "branches", spot, branches);
    }

    private static void worksOfOneTwin() throws ReflectiveOperationException {
        TwinOrchard x = new TwinOrchard();
        tree(x, 8, 2, 5, 4);
        Due.same("prune by that of the place", x.prune(1, 0, 1), 1);
        Due.same("prune by the other one", x.prune(1, 7, 1), 2);
        Due.same("the left twin pruned", x.count(1), 16);
        Due.same("the right twin rested", x.count(2), 20);
        Due.same("graft by that of the place", x.graft(1, 0, 1), 1);
        Due.same("graft by the other one", x.graft(1, 7, 2), 2);
        Due.same("plant by that of the place", x.plant(1, 7, 0, 1), 1);
        Due.same("the right twin planted", x.count(2), 15);
        Due.same("the left twin did not", x.count(1), 8);
        TwinOrchard y = new TwinOrchard();
        tree(y, 15, 2, 5, 4);
        Due.same("plant by the other one", y.plant(1, 7, 0, 1), 2);
        Due.same("tree(1, 0, 1)", y.tree(1, 0, 1), 1);
        Due.same("tree(1, 7, 1)", y.tree(1, 7, 1), 4);
        TwinOrchard z = new TwinOrchard();
        tree(z, 15, 2, 5, 4);
        Due.same("fell by the other one", z.fell(1, 0), 2);
        tree(z, 15, 2, 5, 4);
        Due.same("fell by that of the place", z.fell(1, 7), 1);
        Due.same("the right twin felled", z.count(2), 8);
        tree(z, 8, 1, 5, 4);
        tree(z, 15, 2, 5, 4);
        Due.same("graft of the other sort alone", z.graft(1, 0, 1), 2);
    }

    private static void strengthOfOneTwin() throws ReflectiveOperationException {
        TwinOrchard x = new TwinOrchard();
        put(x, "strength", 0, 4);
        Due.same("plant without the left twin's strength", x.plant(0, 3, 0, 1), 2);
        Due.same("plant at a place of the right twin", x.plant(1, 4, 0, 1), 1);
        Due.same("the left twin's strength stays", x.count(1), 4);
        x.pass(1);
        Due.same("a new year", x.count(1), 20);
    }

    private static void differences() throws ReflectiveOperationException {
        TwinOrchard x = new TwinOrchard();
        x.plant(0, 0, 0, 1);
        x.plant(4, 3, 0, 1);
        Due.same("alike", x.count(7), 0);
        put(x, "branches", 7, 2);
        Due.same("branches differ", x.count(7), 1);
        put(x, "kinds", 36, 2);
        Due.same("sorts differ", x.count(7), 2);
        tree(x, 18, 0, 1, 0);
        Due.same("a tree without branches against none", x.count(7), 3);
        put(x, "branches", 7, 1);
        put(x, "vigours", 7, 9);
        tire(x, 7);
        Due.same("vigour and rest do not count", x.count(7), 2);
    }

    private static void leaning() throws ReflectiveOperationException {
        TwinOrchard x = new TwinOrchard();
        tree(x, 0, 0, 3, 4);
        tree(x, 3, 0, 1, 1);
        tree(x, 4, 0, 9, 9);
        tree(x, 7, 0, 5, 5);
        Due.same("leans(0)", x.leans(0), 12 + 1 - 81 - 25);
        tire(x, 4);
        Due.same("leans(0) with a tired tree", x.leans(0), 12 + 1 - 20 - 25);
        tree(x, 35, 0, 2, 4);
        Due.same("leans(4)", x.leans(4), 8);
        Due.same("leans(3)", x.leans(3), 0);
    }

    private static void advice() throws ReflectiveOperationException {
        TwinOrchard x = new TwinOrchard();
        tree(x, 15, 0, 9, 5);
        tire(x, 15);
        Due.same("a tree at the right alone", x.advise(1), 101);
        tree(x, 8, 0, 9, 1);
        Due.same("the right tree gains more than the left one loses", x.advise(1), 101);
        put(x, "branches", 15, 2);
        // Pruned by one, the right tree bears 9 for 4, the left one 0 for 9; pruned by two, none.
        Due.same("what is lost counts", x.advise(1), -1);
        put(x, "strength", 0, 1);
        Due.same("the right twin alone has strength", x.advise(1), 101);
        TwinOrchard y = new TwinOrchard();
        tree(y, 20, 0, 1, 2);
        tire(y, 20);
        Due.same("one apple more is more", y.advise(1), 231);
    }
}
