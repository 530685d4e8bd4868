/** Orchards in the states that tests begin with, and all that an orchard tells. */
final class Orchards {
    // A bound that stands far above what any loop here needs, so that no fault makes it endless.
    private static final int MANY = 100;

    private Orchards() {
    }

    /**
     * A rested pair at the ends of row 0, of sort 0, with so many branches, 1 to 9. Vigours 1 and 2
     * never tire; other trees are pruned once where they grow past the branches asked for.
     */
    static TwinOrchard grown(int branches, int vigour) {
        TwinOrchard x = new TwinOrchard();
        x.plant(0, 0, 0, vigour);
        if (branches == 9 && vigour == 9) {
            // 81 / 4 apples tire it for ever, unless it reaches 7 branches tired.
            x.pass(6);
            x.prune(0, 0, 4);
            x.pass(2);
            return x;
        }
        for (int years = 0; years < MANY && !isGrown(x, branches); years++) {
            x.pass(1);
        }
        int more = x.tree(0, 0, 1) - branches;
        if (more > 0) {
            x.prune(0, 0, more);
        }
        Due.same("branches to begin with", x.tree(0, 0, 1), branches);
        Due.same("tired to begin with", x.tree(0, 0, 4), 0);
        return x;
    }

    private static boolean isGrown(TwinOrchard x, int branches) {
        int now = x.tree(0, 0, 1);
        return now > branches || now == branches && x.tree(0, 0, 4) == 0;
    }

    /** A tired pair with 5 branches, of vigour 9 and sort 0, at the ends of row 0; 72 apples in the barn. */
    static TwinOrchard tired() {
        TwinOrchard x = new TwinOrchard();
        x.plant(0, 0, 0, 9);
        x.pass(2);
        Due.same("branches to begin with", x.tree(0, 0, 1), 5);
        Due.same("tired to begin with", x.tree(0, 0, 4), 1);
        return x;
    }

    /** All 40 places planted with so many sorts by turns, by 20 plantings in 5 years, 4 of them gone by. */
    static TwinOrchard full(int vigour, int sorts) {
        TwinOrchard x = new TwinOrchard();
        for (int pair = 0; pair < 20; pair++) {
            if (pair > 0 && pair % 4 == 0) {
                x.pass(1);
            }
            x.plant(pair / 4, pair % 4, pair % sorts, vigour);
        }
        return x;
    }

    /**
     * Both twins have just this strength, 0 to 20 without 17 and 19; at the ends of row 0 stands a
     * pair of vigour 1 and sort 0 with 9 branches, and the rows 1 and 2 are empty.
     */
    static TwinOrchard withStrength(int left) {
        TwinOrchard x = new TwinOrchard();
        x.plant(0, 0, 0, 1);
        x.plant(4, 0, 0, 1);
        x.plant(4, 1, 0, 1);
        x.pass(8);
        if (left % 2 == 1) {
            x.plant(3, 0, 0, 1);
        }
        for (int cut = 0; cut < 18 && x.count(1) > left; cut++) {
            x.prune(4, cut / 9, 1);
        }
        Due.same("strength to begin with", x.count(1), left);
        return x;
    }

    /** An orchard without trees whose barn holds just so many apples of each sort named. */
    static TwinOrchard withApples(int... apples) {
        TwinOrchard x = new TwinOrchard();
        for (int sort = 0; sort < apples.length; sort++) {
            if (apples[sort] > 0) {
                x.plant(0, 0, sort, 9);
                for (int years = 0; years < MANY && x.sort(sort, 2) < apples[sort]; years++) {
                    x.pass(1);
                }
                x.fell(0, 0);
                x.pass(1);
                lessen(x, sort, apples[sort]);
                Due.same("apples to begin with", x.sort(sort, 2), apples[sort]);
            }
        }
        return x;
    }

    private static void lessen(TwinOrchard x, int sort, int apples) {
        for (int more = x.sort(sort, 2) - apples; more > 0; more -= 200) {
            x.carry(sort, Math.min(200, more), 0);
        }
    }

    /** Some of everything: sorts, frosts, trees tired and rested, apples, a tilt, strength spent. */
    static TwinOrchard rich() {
        TwinOrchard x = new TwinOrchard();
        x.setSort(0, 5, 3);
        x.setSort(2, 7, 6);
        x.setSort(5, 4, 2);
        x.setFrost(0, 4);
        x.setFrost(3, 7);
        x.setFrost(9, 5);
        x.plant(0, 0, 2, 9);
        x.plant(4, 4, 5, 5);
        x.plant(0, 3, 0, 8);
        x.plant(4, 7, 0, 6);
        x.pass(24);
        x.carry(0, 30, 11);
        x.carry(2, 4, 19);
        x.prune(4, 4, 2);
        x.graft(0, 3, 1);
        return x;
    }

    /** The frost of the year that comes next. */
    static void frostNow(TwinOrchard x, int frost) {
        x.setFrost(x.count(0) % 10, frost);
    }

    /** The numbers of digest(), in its order, but for the frosts: some 270 calls. */
    static long[] numbers(TwinOrchard x, int[] frosts) {
        long[] all = new long[8 + 24 + 10 + 240 + 1];
        int at = 0;
        for (int what = 0; what < 8; what++) {
            all[at++] = x.count(what);
        }
        for (int sort = 0; sort < 6; sort++) {
            for (int what = 0; what < 4; what++) {
                all[at++] = x.sort(sort, what);
            }
        }
        for (int frost : frosts) {
            all[at++] = frost;
        }
        for (int row = 0; row < 5; row++) {
            for (int place = 0; place < 8; place++) {
                for (int what = 0; what < 6; what++) {
                    all[at++] = x.tree(row, place, what);
                }
            }
        }
        all[at] = x.tilt();
        return all;
    }

    /** All that an orchard tells, and what the ten years of the table do to it: some 310 calls. */
    static String everything(TwinOrchard x) {
        StringBuilder all = new StringBuilder();
        for (long number : numbers(x, new int[10])) {
            all.append(number).append(' ');
        }
        for (int row = 0; row < 5; row++) {
            all.append(x.leans(row)).append(' ');
        }
        all.append(x.balance()).append(' ').append(x.mean()).append(' ').append(x.digest());
        for (int years = 1; years <= 6; years++) {
            all.append(' ').append(x.advise(years));
        }
        for (int years = 1; years <= 10; years++) {
            for (int what = 0; what <= 2; what++) {
                all.append(' ').append(x.foresee(years, what));
            }
        }
        return all.toString();
    }
}
