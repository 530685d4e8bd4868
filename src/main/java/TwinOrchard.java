import java.util.Arrays;

/** An orchard pruned by twins. */
public final class TwinOrchard {
    private static final int ROWS = 5;
    private static final int PLACES = 8;
    private static final int HALF_ROW = 4;
    private static final int SPOTS = 40;
    private static final int SORTS = 6;
    private static final int FROST_YEARS = 10;

    private static final int NO_TREE = -1;
    private static final int MOST_WEIGHT = 9;
    private static final int MOST_FROST = 9;
    private static final int MOST_BRANCHES = 9;
    private static final int MOST_VIGOUR = 9;
    private static final int STRONG_VIGOUR = 7;
    private static final int TIRING_APPLES = 20;
    private static final int TIRED_SHARE = 4;

    private static final int LEFT = 0;
    private static final int RIGHT = 1;
    private static final int FULL_STRENGTH = 20;
    private static final int PLANT_COST = 5;
    private static final int PRUNE_COST = 2;
    private static final int GRAFT_COST = 4;
    private static final int FELL_COST = 6;

    private static final int MOST_CARRIED = 200;
    private static final int MOST_BALANCED = 20;
    // Half of what 20 apples of each of 6 sorts weigh at most, 9 each.
    private static final int MOST_HALF_WEIGHT = 540;
    private static final int UNREACHED = -1;

    private static final int MOST_YEARS = 30;
    private static final int MOST_ADVISED_YEARS = 6;

    private static final int TREE_ANSWERS = 6;
    private static final int SORT_ANSWERS = 4;
    private static final int COUNT_ANSWERS = 8;
    private static final int FORESEE_ANSWERS = 3;

    private static final long DIGEST_START = 863;
    private static final long DIGEST_FACTOR = 31;

    // By sort.
    private final int[] weights = new int[SORTS];
    private final int[] hardiness = new int[SORTS];
    private final int[] barn = new int[SORTS];
    // By year of the table.
    private final int[] frosts = new int[FROST_YEARS];
    // By spot: row * PLACES + place.
    private final int[] kinds = new int[SPOTS];
    private final int[] branches = new int[SPOTS];
    private final int[] vigours = new int[SPOTS];
    private final boolean[] tired = new boolean[SPOTS];
    // By twin.
    private final int[] strength = new int[2];
    private int year = 0;
    private int carriedLeftMore = 0;

    // Both are room for reckoning, made once because calls are many and the room is small.
    private final Tree looked = new Tree();
    private final int[] fewest = new int[MOST_HALF_WEIGHT + 1];

    public TwinOrchard() {
        Arrays.fill(weights, 3);
        Arrays.fill(hardiness, 4);
        Arrays.fill(kinds, NO_TREE);
        Arrays.fill(strength, FULL_STRENGTH);
    }

    // ---- sorts and frosts

    public int setSort(int sort, int weight, int bears) throws IndexOutOfBoundsException, IllegalArgumentException {
        if (!isSort(sort)) {
            throw new IndexOutOfBoundsException("no such sort");
        }
        if (!isWithin(weight, 1, MOST_WEIGHT) || !isWithin(bears, 0, MOST_FROST)) {
            throw new IllegalArgumentException("weight or frost borne out of bounds");
        }
        int before = 10 * weights[sort] + hardiness[sort];
        weights[sort] = weight;
        hardiness[sort] = bears;
        return before;
    }

    public int setFrost(int year, int frost) throws IndexOutOfBoundsException, IllegalArgumentException {
        if (!isWithin(year, 0, FROST_YEARS - 1)) {
            throw new IndexOutOfBoundsException("no such year of the table");
        }
        if (!isWithin(frost, 0, MOST_FROST)) {
            throw new IllegalArgumentException("frost out of bounds");
        }
        int before = frosts[year];
        frosts[year] = frost;
        return before;
    }

    // ---- works: each tells 0 if neither twin did it, 1 if that of the place did, 2 if the other one did, 3 if both did

    public int plant(int row, int place, int sort, int vigour) throws IndexOutOfBoundsException, IllegalArgumentException {
        if (!isPlace(row, place)) {
            throw new IndexOutOfBoundsException("no such place");
        }
        if (!isSort(sort) || !isWithin(vigour, 1, MOST_VIGOUR)) {
            throw new IllegalArgumentException("sort or vigour out of bounds");
        }
        int spot = spotOf(row, place);
        boolean own = plantAt(spot, sort, vigour);
        boolean other = plantAt(mirrorOf(spot), sort, vigour);
        return whoDidIt(own, other);
    }

    public int prune(int row, int place, int branches) throws IndexOutOfBoundsException, IllegalArgumentException {
        if (!isPlace(row, place)) {
            throw new IndexOutOfBoundsException("no such place");
        }
        if (!isWithin(branches, 1, MOST_BRANCHES)) {
            throw new IllegalArgumentException("branches out of bounds");
        }
        int spot = spotOf(row, place);
        boolean own = pruneAt(spot, branches);
        boolean other = pruneAt(mirrorOf(spot), branches);
        return whoDidIt(own, other);
    }

    public int graft(int row, int place, int sort) throws IndexOutOfBoundsException, IllegalArgumentException {
        if (!isPlace(row, place)) {
            throw new IndexOutOfBoundsException("no such place");
        }
        if (!isSort(sort)) {
            throw new IllegalArgumentException("no such sort");
        }
        int spot = spotOf(row, place);
        boolean own = graftAt(spot, sort);
        boolean other = graftAt(mirrorOf(spot), sort);
        return whoDidIt(own, other);
    }

    public int fell(int row, int place) throws IndexOutOfBoundsException {
        if (!isPlace(row, place)) {
            throw new IndexOutOfBoundsException("no such place");
        }
        int spot = spotOf(row, place);
        boolean own = fellAt(spot);
        boolean other = fellAt(mirrorOf(spot));
        return whoDidIt(own, other);
    }

    // ---- what is there

    public int tree(int row, int place, int what) throws IndexOutOfBoundsException {
        if (!isPlace(row, place) || !isWithin(what, 0, TREE_ANSWERS - 1)) {
            throw new IndexOutOfBoundsException("no such place or question");
        }
        int spot = spotOf(row, place);
        switch (what) {
            case 0:
                return hasTree(spot) ? 1 : 0;
            case 1:
                return branches[spot];
            case 2:
                return vigours[spot];
            case 3:
                return kinds[spot];
            case 4:
                return tired[spot] ? 1 : 0;
            default:
                return applesNow(spot);
        }
    }

    public int sort(int sort, int what) throws IndexOutOfBoundsException {
        if (!isSort(sort) || !isWithin(what, 0, SORT_ANSWERS - 1)) {
            throw new IndexOutOfBoundsException("no such sort or question");
        }
        switch (what) {
            case 0:
                return weights[sort];
            case 1:
                return hardiness[sort];
            case 2:
                return barn[sort];
            default:
                return treesOfSort(sort);
        }
    }

    public int count(int what) throws IndexOutOfBoundsException {
        if (!isWithin(what, 0, COUNT_ANSWERS - 1)) {
            throw new IndexOutOfBoundsException("no such question");
        }
        switch (what) {
            case 0:
                return year;
            case 1:
                return strength[LEFT];
            case 2:
                return strength[RIGHT];
            case 3:
                return allTrees();
            case 4:
                return allTired();
            case 5:
                return applesInBarn();
            case 6:
                return weightInBarn();
            default:
                return unlikePairs();
        }
    }

    public int leans(int row) throws IndexOutOfBoundsException {
        if (!isWithin(row, 0, ROWS - 1)) {
            throw new IndexOutOfBoundsException("no such row");
        }
        int more = 0;
        for (int place = 0; place < HALF_ROW; place++) {
            int spot = spotOf(row, place);
            more += applesNow(spot) - applesNow(mirrorOf(spot));
        }
        return more;
    }

    // ---- baskets

    public int carry(int sort, int left, int right)
            throws IndexOutOfBoundsException, IllegalArgumentException, IllegalStateException {
        if (!isSort(sort)) {
            throw new IndexOutOfBoundsException("no such sort");
        }
        if (!isWithin(left, 0, MOST_CARRIED) || !isWithin(right, 0, MOST_CARRIED) || left + right == 0) {
            throw new IllegalArgumentException("apples out of bounds");
        }
        if (left + right > barn[sort]) {
            throw new IllegalStateException("not so many apples");
        }
        barn[sort] -= left + right;
        carriedLeftMore += (left - right) * weights[sort];
        return barn[sort];
    }

    public int tilt() {
        return carriedLeftMore;
    }

    public int balance() {
        int total = 0;
        for (int sort = 0; sort < SORTS; sort++) {
            total += balancedApples(sort) * weights[sort];
        }
        // The lighter basket weighs half of all at most: the nearer to it, the better.
        return total - 2 * heaviestUpTo(total / 2);
    }

    // ---- years

    public int pass(int years) throws IllegalArgumentException {
        if (!isWithin(years, 1, MOST_YEARS)) {
            throw new IllegalArgumentException("years out of bounds");
        }
        int borne = 0;
        for (int spot = 0; spot < SPOTS; spot++) {
            if (hasTree(spot)) {
                borne += passAt(spot, years);
            }
        }
        year += years;
        Arrays.fill(strength, FULL_STRENGTH);
        return borne;
    }

    public int foresee(int years, int what) throws IllegalArgumentException, IndexOutOfBoundsException {
        if (!isWithin(years, 1, MOST_YEARS)) {
            throw new IllegalArgumentException("years out of bounds");
        }
        if (!isWithin(what, 0, FORESEE_ANSWERS - 1)) {
            throw new IndexOutOfBoundsException("no such question");
        }
        int borne = 0;
        int branchesThen = 0;
        int tiredThen = 0;
        for (int spot = 0; spot < SPOTS; spot++) {
            if (hasTree(spot)) {
                lookAt(spot);
                borne += liveLooked(years);
                branchesThen += looked.branches;
                tiredThen += looked.tired ? 1 : 0;
            }
        }
        return what == 0 ? borne : what == 1 ? branchesThen : tiredThen;
    }

    public int advise(int years) throws IllegalArgumentException {
        if (!isWithin(years, 1, MOST_ADVISED_YEARS)) {
            throw new IllegalArgumentException("years out of bounds");
        }
        int best = -1;
        int mostGained = 0;
        for (int spot = 0; spot < SPOTS; spot++) {
            for (int cut = 1; cut <= MOST_BRANCHES; cut++) {
                // No tree alters what another one bears, so that the pair alone tells the gain.
                int gained = gainOfPruning(spot, cut, years) + gainOfPruning(mirrorOf(spot), cut, years);
                if (gained > mostGained) {
                    mostGained = gained;
                    best = 100 * (spot / PLACES) + 10 * (spot % PLACES) + cut;
                }
            }
        }
        return best;
    }

    public double mean() {
        int trees = allTrees();
        if (trees == 0) {
            return 0;
        }
        int allBranches = 0;
        for (int spot = 0; spot < SPOTS; spot++) {
            allBranches += branches[spot];
        }
        return (double) allBranches / trees;
    }

    public long digest() {
        long d = DIGEST_START;
        for (int what = 0; what < COUNT_ANSWERS; what++) {
            d = d * DIGEST_FACTOR + count(what);
        }
        for (int sort = 0; sort < SORTS; sort++) {
            for (int what = 0; what < SORT_ANSWERS; what++) {
                d = d * DIGEST_FACTOR + sort(sort, what);
            }
        }
        for (int tableYear = 0; tableYear < FROST_YEARS; tableYear++) {
            d = d * DIGEST_FACTOR + frosts[tableYear];
        }
        for (int spot = 0; spot < SPOTS; spot++) {
            for (int what = 0; what < TREE_ANSWERS; what++) {
                d = d * DIGEST_FACTOR + tree(spot / PLACES, spot % PLACES, what);
            }
        }
        return d * DIGEST_FACTOR + tilt();
    }

    // ---- bounds and places

    private static boolean isWithin(int number, int least, int most) {
        return number >= least && number <= most;
    }

    private static boolean isSort(int sort) {
        return isWithin(sort, 0, SORTS - 1);
    }

    private static boolean isPlace(int row, int place) {
        return isWithin(row, 0, ROWS - 1) && isWithin(place, 0, PLACES - 1);
    }

    private static int spotOf(int row, int place) {
        return row * PLACES + place;
    }

    private static int mirrorOf(int spot) {
        int place = spot % PLACES;
        return spot - place + (PLACES - 1 - place);
    }

    private static int twinOf(int spot) {
        return spot % PLACES < HALF_ROW ? LEFT : RIGHT;
    }

    private boolean hasTree(int spot) {
        return kinds[spot] != NO_TREE;
    }

    // ---- works, each at one place by the twin of this place

    private static int whoDidIt(boolean own, boolean other) {
        return (own ? 1 : 0) + (other ? 2 : 0);
    }

    private boolean canPay(int spot, int cost) {
        return strength[twinOf(spot)] >= cost;
    }

    private void pay(int spot, int cost) {
        strength[twinOf(spot)] -= cost;
    }

    private boolean plantAt(int spot, int sort, int vigour) {
        if (hasTree(spot) || !canPay(spot, PLANT_COST)) {
            return false;
        }
        pay(spot, PLANT_COST);
        kinds[spot] = sort;
        branches[spot] = 1;
        vigours[spot] = vigour;
        tired[spot] = false;
        return true;
    }

    private boolean canPrune(int spot, int cut) {
        return hasTree(spot) && branches[spot] >= cut && canPay(spot, PRUNE_COST);
    }

    private boolean pruneAt(int spot, int cut) {
        if (!canPrune(spot, cut)) {
            return false;
        }
        pay(spot, PRUNE_COST);
        lookAt(spot);
        looked.shorten(cut);
        keepLooked(spot);
        return true;
    }

    private boolean graftAt(int spot, int sort) {
        if (!hasTree(spot) || kinds[spot] == sort || branches[spot] < 1 || !canPay(spot, GRAFT_COST)) {
            return false;
        }
        pay(spot, GRAFT_COST);
        kinds[spot] = sort;
        branches[spot] = Math.max(1, branches[spot] / 2);
        return true;
    }

    private boolean fellAt(int spot) {
        if (!hasTree(spot) || !canPay(spot, FELL_COST)) {
            return false;
        }
        pay(spot, FELL_COST);
        kinds[spot] = NO_TREE;
        branches[spot] = 0;
        vigours[spot] = 0;
        tired[spot] = false;
        return true;
    }

    // ---- counting

    private int treesOfSort(int sort) {
        int trees = 0;
        for (int spot = 0; spot < SPOTS; spot++) {
            trees += kinds[spot] == sort ? 1 : 0;
        }
        return trees;
    }

    private int allTrees() {
        int trees = 0;
        for (int spot = 0; spot < SPOTS; spot++) {
            trees += hasTree(spot) ? 1 : 0;
        }
        return trees;
    }

    private int allTired() {
        int trees = 0;
        for (int spot = 0; spot < SPOTS; spot++) {
            trees += tired[spot] ? 1 : 0;
        }
        return trees;
    }

    private int applesInBarn() {
        int apples = 0;
        for (int sort = 0; sort < SORTS; sort++) {
            apples += barn[sort];
        }
        return apples;
    }

    private int weightInBarn() {
        int weight = 0;
        for (int sort = 0; sort < SORTS; sort++) {
            weight += barn[sort] * weights[sort];
        }
        return weight;
    }

    private int unlikePairs() {
        int pairs = 0;
        for (int row = 0; row < ROWS; row++) {
            for (int place = 0; place < HALF_ROW; place++) {
                int spot = spotOf(row, place);
                int mirror = mirrorOf(spot);
                // A place without a tree has a sort that no tree has.
                pairs += kinds[spot] != kinds[mirror] || branches[spot] != branches[mirror] ? 1 : 0;
            }
        }
        return pairs;
    }

    // ---- balancing

    private int balancedApples(int sort) {
        return Math.max(0, Math.min(barn[sort], MOST_BALANCED));
    }

    private int heaviestUpTo(int limit) {
        Arrays.fill(fewest, UNREACHED);
        fewest[0] = 0;
        for (int sort = 0; sort < SORTS; sort++) {
            reachWithSort(weights[sort], balancedApples(sort));
        }
        int heaviest = Math.min(limit, MOST_HALF_WEIGHT);
        while (heaviest > 0 && fewest[heaviest] == UNREACHED) {
            heaviest--;
        }
        return heaviest;
    }

    /** Each weight in fewest keeps how few apples of this sort it needs, so that none is taken twice. */
    private void reachWithSort(int weight, int apples) {
        for (int reached = 0; reached <= MOST_HALF_WEIGHT; reached++) {
            if (fewest[reached] != UNREACHED) {
                fewest[reached] = 0;
            } else if (reached >= weight) {
                int lighter = fewest[reached - weight];
                if (lighter != UNREACHED && lighter < apples) {
                    fewest[reached] = lighter + 1;
                }
            }
        }
    }

    // ---- a tree's years

    private void lookAt(int spot) {
        looked.vigour = vigours[spot];
        looked.branches = branches[spot];
        looked.tired = tired[spot];
        looked.hardiness = hasTree(spot) ? hardiness[kinds[spot]] : 0;
    }

    private void keepLooked(int spot) {
        branches[spot] = looked.branches;
        tired[spot] = looked.tired;
    }

    private int applesNow(int spot) {
        lookAt(spot);
        return looked.apples();
    }

    private int liveLooked(int years) {
        int borne = 0;
        for (int ahead = 0; ahead < years; ahead++) {
            borne += looked.liveYear(frosts[Math.floorMod(year + ahead, FROST_YEARS)]);
        }
        return borne;
    }

    private int passAt(int spot, int years) {
        lookAt(spot);
        int borne = liveLooked(years);
        keepLooked(spot);
        barn[kinds[spot]] += borne;
        return borne;
    }

    private int gainOfPruning(int spot, int cut, int years) {
        if (!canPrune(spot, cut)) {
            return 0;
        }
        lookAt(spot);
        int unpruned = liveLooked(years);
        lookAt(spot);
        looked.shorten(cut);
        return liveLooked(years) - unpruned;
    }

    /** A tree looked at by itself, so that its years can be tried without touching the orchard. */
    private static final class Tree {
        private int vigour;
        private int hardiness;
        private int branches;
        private boolean tired;

        private void shorten(int cut) {
            branches -= cut;
            tired = false;
        }

        private int apples() {
            int full = branches * vigour;
            return tired ? full / TIRED_SHARE : full;
        }

        private int liveYear(int frost) {
            freeze(frost);
            int borne = apples();
            tired = borne >= TIRING_APPLES;
            grow();
            return borne;
        }

        private void freeze(int frost) {
            int lost = Math.max(0, frost - hardiness);
            branches = Math.max(0, branches - lost);
        }

        private void grow() {
            int more = vigour >= STRONG_VIGOUR ? 2 : 1;
            branches = Math.min(MOST_BRANCHES, branches + more);
        }
    }
}
