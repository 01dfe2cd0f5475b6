/** Long runs of calls, right and wrong ones, each answered by the class and by the Model alike. */
public final class ModelTest {
    private static final int RUNS = 1500;
    private static final int CALLS = 512;
    private long state = 1;
    private int wrong = 0;
    private final StringBuilder calls = new StringBuilder();

    public static void main(String[] args) {
        ModelTest test = new ModelTest();
        for (int run = 0; run < RUNS && test.wrong == 0; run++) {
            test.run();
        }
        System.out.println(test.wrong == 0 ? RUNS + " runs are as the model's" : "a run is not as the model's");
        if (test.wrong != 0) {
            System.exit(1);
        }
    }

    private int below(int bound) {
        state = state * 6364136223846793005L + 1442695040888963407L;
        return (int) ((state >>> 33) % bound);
    }

    /** Mostly 0 to bound - 1, now and then beyond. */
    private int about(int bound) {
        int r = below(60);
        return r == 0 ? -1 - below(3) : r == 1 ? bound + below(2) : r == 2 ? Integer.MIN_VALUE + below(2)
                : r == 3 ? Integer.MAX_VALUE - below(2) : below(bound);
    }

    private void run() {
        calls.setLength(0);
        DearAsMany x = new DearAsMany();
        Model y = new Model();
        int left = CALLS;
        while (left > 0 && wrong == 0) {
            if (left > 200 && below(90) == 0) {
                left -= writeText(x, y, text());
            } else {
                call(x, y);
                left--;
            }
        }
    }

    private String text() {
        StringBuilder t = new StringBuilder();
        int people = 1 + below(7) + (below(20) == 0 ? 1 : 0);
        int mild = below(5);
        int oneKind = below(6);
        for (int i = 0; i < people; i++) {
            int kind = oneKind < 4 ? oneKind : below(4);
            int w = mild == 0 ? below(100) : mild == 4 ? below(40) : below(16);
            int c = mild == 1 ? 9 : mild == 2 || mild == 4 ? below(19) : 6 + below(7);
            t.append("p").append(kind).append(",").append(w).append(",").append(c).append(",");
            t.append(below(mild == 3 ? 3 : 8)).append(",").append(below(3) == 0 ? below(4) : below(100)).append(";");
            if (below(12) == 0) {
                t.append("s").append(40 + below(20)).append(";");
            }
            if (below(4) == 0) {
                t.append("o").append(below(i + 1)).append(";");
            }
        }
        if (mild == 4) {
            t.append("s").append(25 + below(20)).append(";");
        } else if (below(3) == 0) {
            t.append("s").append(below(2) == 0 ? below(100) : 44 + below(13)).append(";");
        }
        if (below(8) == 0) {
            t.setCharAt(below(t.length()), "0123456789,;posx \u00b2".charAt(below(18)));
        }
        if (below(10) == 0) {
            t.deleteCharAt(below(t.length()));
        }
        return t.toString();
    }

    private int writeText(DearAsMany x, Model y, String text) {
        same("wipe()", x.wipe(), y.wipe());
        int n = 1;
        int made = 3;
        for (int k = 0; k < text.length(); k += n) {
            n = Math.min(below(4) == 0 ? 1 + below(8) : 8, text.length() - k);
            long v = below(2) == 0 ? 0 : -1;
            for (int b = 0; b < n; b++) {
                v = v << 8 | text.charAt(k + b) & 255;
            }
            same("write(" + n + ", " + v + "L)", x.write(n, v), y.write(n, v));
            made++;
        }
        same("fault()", x.fault(), y.fault());
        same("lay()", x.lay(), y.lay());
        return made;
    }

    private void same(String call, int got, int want) {
        calls.append(call).append("\n");
        if (got != want && wrong++ == 0) {
            System.out.println(calls + "answered " + got + ", the model " + want);
        }
    }

    private void call(DearAsMany x, Model y) {
        int people = y.count(0);
        int i = about(people);
        int j = about(people);
        int set = about(1 << people);
        int what = about(2);
        boolean yes = below(2) == 0;
        String ij = "(" + i + ", " + j + ")";
        String iw = "(" + i + ", " + what + ")";
        switch (below(30)) {
            case 0 -> {
                int n = about(9);
                long v = state;
                same("write(" + n + ", " + v + "L)", x.write(n, v), y.write(n, v));
            }
            case 1 -> {
                if (below(8) == 0) {
                    same("wipe()", x.wipe(), y.wipe());
                } else {
                    same("fault()", x.fault(), y.fault());
                }
            }
            case 2 -> {
                if (below(12) == 0) {
                    same("lay()", x.lay(), y.lay());
                } else {
                    same("worth(" + i + ", " + set + ")", x.worth(i, set), y.worth(i, set));
                }
            }
            case 3 -> {
                int w = about(6);
                same("person(" + i + ", " + w + ")", x.person(i, w), y.person(i, w));
            }
            case 4, 5 -> {
                int few = below(4) == 0 ? set : 1 << below(people) | 1 << below(people);
                same("buy(" + few + ")", x.buy(few), y.buy(few));
            }
            case 6 -> same("toss(" + i + ")", x.toss(i), y.toss(i));
            case 7, 8 -> same("sell" + ij, x.sell(i, j), y.sell(i, j));
            case 9 -> same("undo()", x.undo(), y.undo());
            case 10 -> same("price(" + i + ")", x.price(i), y.price(i));
            case 11 -> same("would(" + what + ")", x.would(what), y.would(what));
            case 12 -> {
                int n = about(61);
                same("behind(" + n + ", " + yes + ")", x.behind(n, yes), y.behind(n, yes));
            }
            case 13, 14 -> same("rest(" + yes + ", " + what + ")", x.rest(yes, what), y.rest(yes, what));
            case 15 -> {
                int k = about(12) - 1;
                same("rests(" + k + ")", x.rests(k), y.rests(k));
            }
            case 16 -> {
                int rest = below(4) == 0 ? set : y.rests(below(Math.max(1, y.rests(-1))));
                same("tip(" + rest + ", " + yes + ", " + what + ")", x.tip(rest, yes, what), y.tip(rest, yes, what));
            }
            case 17, 18 -> same("place" + iw, x.place(i, what), y.place(i, what));
            case 19 -> same("burn(" + i + ")", x.burn(i), y.burn(i));
            case 20 -> same("share()", x.share(), y.share());
            case 21, 22 -> {
                int n = about(8);
                same("seen(" + i + ", " + n + ", " + yes + ")", x.seen(i, n, yes), y.seen(i, n, yes));
            }
            case 23 -> {
                if (below(3) == 0) {
                    same("forget()", x.forget(), y.forget());
                } else {
                    same("keep()", x.keep(), y.keep());
                }
            }
            case 24, 25 -> same("likes" + iw, x.likes(i, what), y.likes(i, what));
            case 26 -> {
                int z = about(10000);
                int n = below(2) == 0 ? about(101) : about(8);
                same("year(" + z + ", " + n + ", " + what + ")", x.year(z, n, what), y.year(z, n, what));
            }
            case 27 -> {
                if (below(3) == 0) {
                    same("back()", x.back(), y.back());
                } else {
                    same("place" + iw, x.place(i, what), y.place(i, what));
                }
            }
            default -> {
                int w = about(7);
                same("count(" + w + ")", x.count(w), y.count(w));
            }
        }
    }
}
