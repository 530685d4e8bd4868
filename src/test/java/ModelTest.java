/**
 * Promises 1 to 19: runs of 512 calls, every second one digest(), each answered by PlainOrchard
 * too. The calls come from a fixed row of numbers, so that every run of this test makes the same ones.
 */
public final class ModelTest {
    private static final int RUNS = 240;
    private static final int CALLS = 256;

    private long state;
    private TwinOrchard x;
    private PlainOrchard plain;

    public static void main(String[] args) {
        for (int run = 0; run < RUNS && Due.wrongSoFar() == 0; run++) {
            new ModelTest().run(run);
        }
        Due.end();
    }

    private void run(int run) {
        state = 977 * run + 5;
        x = new TwinOrchard();
        plain = new PlainOrchard();
        // Some runs let years go by seldom, so that strength gives out; others hold no wrong inputs.
        int passes = 1 + run % 4;
        int wrongs = run % 3 == 0 ? 0 : 12;
        for (int call = 0; call < CALLS && Due.wrongSoFar() == 0; call++) {
            oneCall(run, call, passes, wrongs);
            Due.same("run " + run + ", call " + call + ": digest()", x.digest(), plain.digest());
        }
    }

    private int below(int bound) {
        state = state * 6364136223846793005L + 1442695040888963407L;
        return (int) ((state >>> 33) % bound);
    }

    /** Mostly from least to most, now and then just outside, or far off. */
    private int number(int least, int most, int wrongs) {
        if (wrongs > 0 && below(wrongs * 10) == 0) {
            int[] off = {least - 1, most + 1, Integer.MIN_VALUE, Integer.MAX_VALUE, -1, most + 7};
            return off[below(off.length)];
        }
        return least + below(most - least + 1);
    }

    private void oneCall(int run, int call, int passes, int w) {
        int row = number(0, 4, w);
        int place = number(0, 7, w);
        int sort = number(0, 5, w);
        int kind = below(20 + 2 * passes);
        String told = "run " + run + ", call " + call + ": ";
        switch (kind) {
            case 0, 1, 2 -> {
                int vigour = number(1, 9, w);
                same(told + "plant", () -> x.plant(row, place, sort, vigour), () -> plain.plant(row, place, sort, vigour));
            }
            case 3, 4 -> {
                int branches = number(1, below(2) == 0 ? 3 : 9, w);
                same(told + "prune", () -> x.prune(row, place, branches), () -> plain.prune(row, place, branches));
            }
            case 5, 6 -> same(told + "graft", () -> x.graft(row, place, sort), () -> plain.graft(row, place, sort));
            case 7 -> same(told + "fell", () -> x.fell(row, place), () -> plain.fell(row, place));
            case 8 -> {
                int weight = number(1, 9, w);
                int bears = number(0, 9, w);
                same(told + "setSort", () -> x.setSort(sort, weight, bears), () -> plain.setSort(sort, weight, bears));
            }
            case 9 -> {
                int year = number(0, 9, w);
                int frost = number(0, 9, w);
                same(told + "setFrost", () -> x.setFrost(year, frost), () -> plain.setFrost(year, frost));
            }
            case 10, 11, 12, 13 -> oneQuestion(told, row, place, sort, w);
            case 14, 15 -> {
                int most = below(3) == 0 ? 200 : 12;
                int left = number(0, most, w);
                int right = number(0, most, w);
                same(told + "carry", () -> x.carry(sort, left, right), () -> plain.carry(sort, left, right));
            }
            case 16 -> same(told + "balance", () -> x.balance(), () -> plain.balance());
            case 17, 18 -> {
                int years = number(1, 6, w);
                same(told + "advise(" + years + ")", () -> x.advise(years), () -> plain.advise(years));
            }
            case 19 -> {
                int years = number(1, 30, w);
                int what = number(0, 2, w);
                same(told + "foresee", () -> x.foresee(years, what), () -> plain.foresee(years, what));
            }
            default -> {
                int years = number(1, below(20) == 0 ? 30 : 2, w);
                same(told + "pass", () -> x.pass(years), () -> plain.pass(years));
            }
        }
    }

    private void oneQuestion(String told, int row, int place, int sort, int w) {
        switch (below(6)) {
            case 0 -> {
                int what = number(0, 5, w);
                same(told + "tree", () -> x.tree(row, place, what), () -> plain.tree(row, place, what));
            }
            case 1 -> {
                int what = number(0, 3, w);
                same(told + "sort", () -> x.sort(sort, what), () -> plain.sort(sort, what));
            }
            case 2 -> {
                int what = number(0, 7, w);
                same(told + "count", () -> x.count(what), () -> plain.count(what));
            }
            case 3 -> same(told + "leans", () -> x.leans(row), () -> plain.leans(row));
            case 4 -> same(told + "tilt", () -> x.tilt(), () -> plain.tilt());
            default -> Due.sameMean(told + "mean", x.mean(), plain.mean());
        }
    }

    private static void same(String call, Due.Call made, Due.Call due) {
        String got = answer(made);
        String want = answer(due);
        Due.same(call, got.equals(want) ? 1 : 0, 1);
        if (!got.equals(want)) {
            Due.tell(call + " answered " + got + ", due is " + want);
        }
    }

    private static String answer(Due.Call call) {
        try {
            return Double.toString(call.answer());
        } catch (RuntimeException e) {
            return e.getClass().getName();
        }
    }
}
