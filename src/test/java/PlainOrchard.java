import java.util.ArrayList;
import java.util.List;
import java.util.TreeSet;

/**
 * The document once more, written for plainness alone and apart from TwinOrchard: years and
 * prunings are tried on whole copies, and baskets are filled apple by apple.
 */
final class PlainOrchard {
    private record Tree(int sort, int vigour, int branches, boolean tired) {
        int apples() {
            return tired ? branches * vigour / 4 : branches * vigour;
        }
    }

    private final Tree[][] trees = new Tree[5][8];
    private final int[] weight = {3, 3, 3, 3, 3, 3};
    private final int[] bears = {4, 4, 4, 4, 4, 4};
    private final int[] barn = new int[6];
    private final int[] frost = new int[10];
    private final int[] strength = {20, 20};
    private int year = 0;
    private int tilt = 0;

    private PlainOrchard copy() {
        PlainOrchard c = new PlainOrchard();
        for (int row = 0; row < 5; row++) {
            c.trees[row] = trees[row].clone();
        }
        System.arraycopy(weight, 0, c.weight, 0, 6);
        System.arraycopy(bears, 0, c.bears, 0, 6);
        System.arraycopy(barn, 0, c.barn, 0, 6);
        System.arraycopy(frost, 0, c.frost, 0, 10);
        System.arraycopy(strength, 0, c.strength, 0, 2);
        c.year = year;
        c.tilt = tilt;
        return c;
    }

    private static void index(boolean holds) {
        if (!holds) {
            throw new IndexOutOfBoundsException();
        }
    }

    private static void argument(boolean holds) {
        if (!holds) {
            throw new IllegalArgumentException();
        }
    }

    private static boolean in(int x, int from, int to) {
        return from <= x && x <= to;
    }

    int setSort(int sort, int newWeight, int newBears) {
        index(in(sort, 0, 5));
        argument(in(newWeight, 1, 9) && in(newBears, 0, 9));
        int before = 10 * weight[sort] + bears[sort];
        weight[sort] = newWeight;
        bears[sort] = newBears;
        return before;
    }

    int setFrost(int tableYear, int newFrost) {
        index(in(tableYear, 0, 9));
        argument(in(newFrost, 0, 9));
        int before = frost[tableYear];
        frost[tableYear] = newFrost;
        return before;
    }

    /** Whether the twin of the place can pay; if so it has paid. */
    private boolean pays(int place, int cost) {
        int twin = place <= 3 ? 0 : 1;
        if (strength[twin] < cost) {
            return false;
        }
        strength[twin] -= cost;
        return true;
    }

    int plant(int row, int place, int sort, int vigour) {
        index(in(row, 0, 4) && in(place, 0, 7));
        argument(in(sort, 0, 5) && in(vigour, 1, 9));
        int who = 0;
        for (int turn = 1; turn <= 2; turn++) {
            int p = turn == 1 ? place : 7 - place;
            if (trees[row][p] == null && pays(p, 5)) {
                trees[row][p] = new Tree(sort, vigour, 1, false);
                who += turn;
            }
        }
        return who;
    }

    int prune(int row, int place, int branches) {
        index(in(row, 0, 4) && in(place, 0, 7));
        argument(in(branches, 1, 9));
        int who = 0;
        for (int turn = 1; turn <= 2; turn++) {
            int p = turn == 1 ? place : 7 - place;
            Tree t = trees[row][p];
            if (t != null && t.branches >= branches && pays(p, 2)) {
                trees[row][p] = new Tree(t.sort, t.vigour, t.branches - branches, false);
                who += turn;
            }
        }
        return who;
    }

    int graft(int row, int place, int sort) {
        index(in(row, 0, 4) && in(place, 0, 7));
        argument(in(sort, 0, 5));
        int who = 0;
        for (int turn = 1; turn <= 2; turn++) {
            int p = turn == 1 ? place : 7 - place;
            Tree t = trees[row][p];
            if (t != null && t.sort != sort && t.branches > 0 && pays(p, 4)) {
                trees[row][p] = new Tree(sort, t.vigour, t.branches == 1 ? 1 : t.branches / 2, t.tired);
                who += turn;
            }
        }
        return who;
    }

    int fell(int row, int place) {
        index(in(row, 0, 4) && in(place, 0, 7));
        int who = 0;
        for (int turn = 1; turn <= 2; turn++) {
            int p = turn == 1 ? place : 7 - place;
            if (trees[row][p] != null && pays(p, 6)) {
                trees[row][p] = null;
                who += turn;
            }
        }
        return who;
    }

    int tree(int row, int place, int what) {
        index(in(row, 0, 4) && in(place, 0, 7) && in(what, 0, 5));
        Tree t = trees[row][place];
        if (t == null) {
            return what == 3 ? -1 : 0;
        }
        return new int[] {1, t.branches, t.vigour, t.sort, t.tired ? 1 : 0, t.apples()}[what];
    }

    private List<Tree> standing() {
        List<Tree> all = new ArrayList<>();
        for (Tree[] row : trees) {
            for (Tree t : row) {
                if (t != null) {
                    all.add(t);
                }
            }
        }
        return all;
    }

    int sort(int sort, int what) {
        index(in(sort, 0, 5) && in(what, 0, 3));
        int stand = (int) standing().stream().filter(t -> t.sort == sort).count();
        return new int[] {weight[sort], bears[sort], barn[sort], stand}[what];
    }

    int count(int what) {
        index(in(what, 0, 7));
        int apples = 0;
        int heavy = 0;
        for (int s = 0; s < 6; s++) {
            apples += barn[s];
            heavy += barn[s] * weight[s];
        }
        int differ = 0;
        for (int row = 0; row < 5; row++) {
            for (int place = 0; place < 4; place++) {
                Tree a = trees[row][place];
                Tree b = trees[row][7 - place];
                boolean bothOrNone = (a == null) == (b == null);
                if (!bothOrNone || a != null && (a.sort != b.sort || a.branches != b.branches)) {
                    differ++;
                }
            }
        }
        int tired = (int) standing().stream().filter(Tree::tired).count();
        return new int[] {year, strength[0], strength[1], standing().size(), tired, apples, heavy, differ}[what];
    }

    int leans(int row) {
        index(in(row, 0, 4));
        int more = 0;
        for (int place = 0; place < 8; place++) {
            more += tree(row, place, 5) * (place <= 3 ? 1 : -1);
        }
        return more;
    }

    int carry(int sort, int left, int right) {
        index(in(sort, 0, 5));
        argument(in(left, 0, 200) && in(right, 0, 200) && !(left == 0 && right == 0));
        if (barn[sort] < left + right) {
            throw new IllegalStateException();
        }
        barn[sort] = barn[sort] - left - right;
        tilt = tilt + left * weight[sort] - right * weight[sort];
        return barn[sort];
    }

    int tilt() {
        return tilt;
    }

    int balance() {
        TreeSet<Integer> differences = new TreeSet<>();
        differences.add(0);
        for (int s = 0; s < 6; s++) {
            for (int apple = 0; apple < 20 && apple < barn[s]; apple++) {
                TreeSet<Integer> next = new TreeSet<>();
                for (int difference : differences) {
                    next.add(difference + weight[s]);
                    next.add(Math.abs(difference - weight[s]));
                }
                differences = next;
            }
        }
        return differences.first();
    }

    int pass(int years) {
        argument(in(years, 1, 30));
        int borne = 0;
        for (int k = 0; k < years; k++) {
            borne += oneYear();
        }
        return borne;
    }

    private int oneYear() {
        int borne = 0;
        for (int row = 0; row < 5; row++) {
            for (int place = 0; place < 8; place++) {
                Tree t = trees[row][place];
                if (t == null) {
                    continue;
                }
                int branches = t.branches;
                if (bears[t.sort] < frost[year % 10]) {
                    branches = Math.max(0, branches - (frost[year % 10] - bears[t.sort]));
                }
                int apples = new Tree(t.sort, t.vigour, branches, t.tired).apples();
                barn[t.sort] += apples;
                borne += apples;
                if (branches < 9) {
                    branches = Math.min(9, t.vigour >= 7 ? branches + 2 : branches + 1);
                }
                trees[row][place] = new Tree(t.sort, t.vigour, branches, apples >= 20);
            }
        }
        strength[0] = 20;
        strength[1] = 20;
        year++;
        return borne;
    }

    int foresee(int years, int what) {
        argument(in(years, 1, 30));
        index(in(what, 0, 2));
        PlainOrchard then = copy();
        int borne = then.pass(years);
        int branches = then.standing().stream().mapToInt(Tree::branches).sum();
        return new int[] {borne, branches, then.count(4)}[what];
    }

    int advise(int years) {
        argument(in(years, 1, 6));
        int most = copy().pass(years);
        int best = -1;
        for (int number = 0; number <= 479; number++) {
            if (number / 10 % 10 <= 7 && number % 10 >= 1) {
                PlainOrchard then = copy();
                then.prune(number / 100, number / 10 % 10, number % 10);
                int borne = then.pass(years);
                if (borne > most) {
                    most = borne;
                    best = number;
                }
            }
        }
        return best;
    }

    double mean() {
        return standing().stream().mapToInt(Tree::branches).average().orElse(0);
    }

    long digest() {
        List<Long> numbers = new ArrayList<>();
        for (int what = 0; what < 8; what++) {
            numbers.add((long) count(what));
        }
        for (int s = 0; s < 6; s++) {
            for (int what = 0; what < 4; what++) {
                numbers.add((long) sort(s, what));
            }
        }
        for (int f : frost) {
            numbers.add((long) f);
        }
        for (int row = 0; row < 5; row++) {
            for (int place = 0; place < 8; place++) {
                for (int what = 0; what < 6; what++) {
                    numbers.add((long) tree(row, place, what));
                }
            }
        }
        numbers.add((long) tilt);
        long d = 863;
        for (long x : numbers) {
            d = d * 31 + x;
        }
        return d;
    }
}
