/** Promises 21 to 27: seen, forget, likes, year, keep, back, count. */
public final class LikesYearsTest {
    private static final int BAD = DearAsMany.BAD, NO = DearAsMany.NO, FULL = DearAsMany.FULL, NONE = DearAsMany.NONE;
    private static final int[] NO_WHATS = {-1, 2, Integer.MIN_VALUE, Integer.MAX_VALUE};
    private static final int[] NO_PERSONS = {-1, 3, 7, Integer.MIN_VALUE, Integer.MAX_VALUE};
    private final Due due = new Due();

    public static void main(String[] args) {
        LikesYearsTest test = new LikesYearsTest();
        test.seen();
        test.likesOfKinds();
        test.likesOfSeveral();
        test.likesBad();
        test.year();
        test.yearOfSeveral();
        test.yearBad();
        test.keepAndBack();
        test.count();
        test.due.end();
    }

    private void seen() {
        DearAsMany x = new DearAsMany();
        for (int i : NO_PERSONS) {
            due.is("seen(" + i + ", 0, true)", x.seen(i, 0, true), BAD);
        }
        for (int n : new int[] {-1, 8, Integer.MIN_VALUE, Integer.MAX_VALUE}) {
            due.is("seen(0, " + n + ", true)", x.seen(0, n, true), BAD);
        }
        due.is("forget() of nothing", x.forget(), 0);
        for (int k = 0; k < 8; k++) {
            due.is("seen number " + k, x.seen(k % 3, 7 - k, k % 2 == 0), k + 1);
            due.is("count(3)", x.count(3), k + 1);
        }
        due.is("seen of a ninth", x.seen(0, 0, true), FULL);
        due.is("seen of nobody, when full", x.seen(3, 0, true), BAD);
        due.is("seen with 8, when full", x.seen(0, 8, true), BAD);
        due.is("count(3) when full", x.count(3), 8);
        due.is("count(4) behind seen", x.count(4), 0);
        due.is("count(1) behind seen", x.count(1), 0);
        due.is("forget()", x.forget(), 8);
        due.is("forget() once more", x.forget(), 0);
        due.is("likes(0, 0) of nothing seen", x.likes(0, 0), 100);
        due.is("seen behind forget()", x.seen(2, 7, false), 1);
    }

    private void liked(String town, int n, boolean bought, int many, int lowest) {
        DearAsMany x = Due.laid(town);
        String call = " of " + town + ", seen with " + n + ", bought " + bought;
        due.is("seen" + call, x.seen(0, n, bought), 1);
        due.is("likes(0, 0)" + call, x.likes(0, 0), many);
        due.is("likes(0, 1)" + call, x.likes(0, 1), lowest);
    }

    private void likesOfKinds() {
        String plain = "p0,50,9,0,0;s99;";
        liked(plain, 0, true, 99, 1);
        liked(plain, 0, false, 1, 0);
        liked(plain, 7, true, 92, 8);
        liked(plain, 7, false, 8, 0);
        liked("p0,50,0,0,0;", 7, true, 29, 71);
        liked("p0,50,0,0,0;", 7, false, 71, 0);
        liked("p0,50,18,0,0;", 7, true, 100, 0);
        liked("p0,50,18,0,0;", 7, false, 0, NONE);
        liked("p0,50,10,0,0;", 1, true, 99, 1);
        liked("p1,50,18,0,0;", 0, true, 99, 1);
        liked("p1,50,18,0,0;", 0, false, 1, 0);
        liked("p1,50,18,0,0;", 1, true, 0, NONE);
        liked("p1,50,18,0,0;", 1, false, 100, 0);
        liked("p2,50,18,0,0;", 0, true, 99, 1);
        liked("p2,50,18,0,0;", 1, true, 0, NONE);
        liked("p2,50,18,0,0;", 7, false, 100, 0);
        liked("p3,50,18,0,0;", 0, true, 0, NONE);
        liked("p3,50,18,0,0;", 1, true, 0, NONE);
        liked("p3,50,18,0,0;", 1, false, 100, 0);
        liked("p3,50,9,0,0;", 2, true, 97, 3);
        liked("p3,50,9,0,0;", 2, false, 3, 0);
    }

    private void likesOfSeveral() {
        DearAsMany x = Due.laid("p0,0,9,0,0;p0,0,7,1,0;p1,0,9,2,0;s0;o0;");
        x.seen(0, 3, true);
        x.seen(1, 5, true);
        x.seen(0, 7, false);
        x.seen(1, 4, false);
        x.seen(2, 0, true);
        due.is("likes(0, 0): 4 to 7", x.likes(0, 0), 4);
        due.is("likes(0, 1)", x.likes(0, 1), 4);
        due.is("likes(1, 0): more than 15, not more than 12", x.likes(1, 0), 0);
        due.is("likes(1, 1)", x.likes(1, 1), NONE);
        due.is("likes(2, 0)", x.likes(2, 0), 99);
        x.seen(0, 5, true);
        due.is("likes(0, 0): 6, 7", x.likes(0, 0), 2);
        due.is("likes(0, 1)", x.likes(0, 1), 6);
        x.seen(0, 5, false);
        due.is("likes(0, 0): bought and not", x.likes(0, 0), 0);
        due.is("likes(0, 1): bought and not", x.likes(0, 1), NONE);
        due.is("likes(2, 1)", x.likes(2, 1), 1);
        x.forget();
        due.is("likes(0, 1) behind forget()", x.likes(0, 1), 0);
        due.is("likes(1, 0) behind forget()", x.likes(1, 0), 100);
        due.is("person(0, 1) stays", x.person(0, 1), 0);
    }

    private void likesBad() {
        DearAsMany x = new DearAsMany();
        for (int i : NO_PERSONS) {
            due.is("likes(" + i + ", 0)", x.likes(i, 0), BAD);
        }
        for (int what : NO_WHATS) {
            due.is("likes(0, " + what + ")", x.likes(0, what), BAD);
        }
    }

    /** z, days, owners behind the last, the day of most. */
    private void yearsOf(String town, int[][] dues) {
        DearAsMany x = Due.laid(town);
        int owners = x.count(1);
        for (int[] d : dues) {
            due.is("year(" + d[0] + ", " + d[1] + ", 0) of " + town, x.year(d[0], d[1], 0), d[2]);
            due.is("year(" + d[0] + ", " + d[1] + ", 1) of " + town, x.year(d[0], d[1], 1), d[3]);
        }
        due.is("count(1) behind years of " + town, x.count(1), owners);
        due.is("count(4) behind years of " + town, x.count(4), 0);
    }

    /** The seasons of 0 are 1, 87, 99, 79, 6, 59, 80, 48, ..; of 77 75, 39, 71, 29, 55, ..; of 9999 3, 12, 68, 92, .. and 9 at last. */
    private void year() {
        yearsOf("p0,0,9,0,0;", new int[][] {{0, 1, 0, 0}, {0, 2, 1, 1}, {0, 4, 1, 1}, {0, 5, 0, 1}, {0, 6, 1, 1}, {0, 8, 0, 1},
            {0, 100, 0, 1}, {77, 1, 1, 0}, {77, 2, 0, 0}, {9999, 2, 0, 0}, {9999, 3, 1, 2}, {9999, 100, 0, 2}});
        yearsOf("p0,49,9,0,0;", new int[][] {{0, 1, 0, 0}, {0, 2, 1, 1}, {0, 100, 1, 1}});
        yearsOf("p0,49,9,0,0;o0;", new int[][] {{0, 1, 1, 0}, {0, 100, 1, 0}});
        yearsOf("p0,48,9,0,0;s0;o0;", new int[][] {{0, 1, 0, 0}, {0, 2, 1, 1}});
        yearsOf("p0,47,9,0,0;", new int[][] {{9999, 1, 0, 0}, {9999, 2, 1, 1}});
        yearsOf("p0,48,9,0,0;s0;", new int[][] {{9999, 1, 1, 0}});
    }

    private void yearOfSeveral() {
        // day 0: nobody would; day 1 (87): all; day 4 (6): the first two are rid of it, and so on
        yearsOf("p0,10,9,0,0;p0,20,9,1,0;p0,44,9,2,0;", new int[][] {{0, 1, 0, 0}, {0, 2, 3, 1}, {0, 4, 3, 1}, {0, 5, 1, 1}});
        // by turns, not at once: two FOPS, and the second finds that the first has one
        yearsOf("p2,50,9,0,0;p2,50,9,1,0;", new int[][] {{0, 1, 1, 0}, {0, 100, 1, 0}});
        yearsOf("p2,50,9,0,0;p2,50,9,1,0;o0;o1;", new int[][] {{0, 1, 1, 0}, {0, 2, 1, 0}});
        // 75: both; 39: the first is rid of it; of 9999 nobody (3), the other one (12), both (68)
        yearsOf("p0,10,9,0,0;p0,40,9,1,0;", new int[][] {{77, 1, 2, 0}, {77, 2, 1, 0}, {9999, 1, 0, 0}, {9999, 2, 1, 1}, {9999, 3, 2, 2}});
    }

    private void yearBad() {
        DearAsMany x = new DearAsMany();
        for (int z : new int[] {-1, 10000, Integer.MIN_VALUE, Integer.MAX_VALUE}) {
            due.is("year(" + z + ", 1, 0)", x.year(z, 1, 0), BAD);
        }
        for (int n : new int[] {-1, 0, 101, Integer.MIN_VALUE, Integer.MAX_VALUE}) {
            due.is("year(0, " + n + ", 0)", x.year(0, n, 0), BAD);
        }
        for (int what : NO_WHATS) {
            due.is("year(0, 1, " + what + ")", x.year(0, 1, what), BAD);
        }
    }

    private void keepAndBack() {
        DearAsMany x = Due.laid("p0,9,9,0,9;p0,9,9,1,9;p0,9,9,2,9;");
        due.is("back() of nothing", x.back(), NO);
        x.buy(3);
        due.is("keep()", x.keep(), 1);
        due.is("count(4), keep() takes nothing from undo()", x.count(4), 1);
        x.buy(4);
        due.is("keep() once more", x.keep(), 2);
        due.is("keep() of a third", x.keep(), FULL);
        due.is("count(5)", x.count(5), 2);
        x.toss(0);
        x.undo();
        x.sell(1, 0);
        x.toss(1);
        x.sell(2, 1);
        due.is("person(1, 4) ahead of back()", x.person(1, 4), 1007);
        due.is("back(), the last kept", x.back(), 1);
        due.is("count(1) behind back()", x.count(1), 7);
        due.is("count(4) behind back()", x.count(4), 0);
        due.is("undo() behind back()", x.undo(), NO);
        int[] pennies = {8, 8, 7};
        for (int i = 0; i < 3; i++) {
            due.is("person(" + i + ", 4) behind back()", x.person(i, 4), 1000 + pennies[i]);
        }
        x.toss(2);
        due.is("keep() in its place", x.keep(), 2);
        x.toss(1);
        due.is("back() to that", x.back(), 1);
        due.is("count(1) behind that", x.count(1), 3);
        due.is("back(), the first kept", x.back(), 0);
        due.is("count(1) behind the first", x.count(1), 3);
        due.is("person(2, 4) behind the first", x.person(2, 4), 1009);
        due.is("back() of no more", x.back(), NO);
        x.toss(0);
        due.is("count(4) behind toss", x.count(4), 1);
        due.is("undo() to what was brought back", x.undo(), 0);
        due.is("count(1) as brought back", x.count(1), 3);
    }

    private void count() {
        DearAsMany x = Due.laid("p0,9,9,0,9;p0,9,9,1,9;o1;s60;");
        x.buy(1);
        x.toss(1);
        x.keep();
        x.seen(0, 1, true);
        x.seen(0, 1, true);
        x.seen(0, 1, true);
        int[] dues = {2, 1, 60, 3, 2, 1, 29};
        for (int what = 0; what < dues.length; what++) {
            due.is("count(" + what + ")", x.count(what), dues[what]);
        }
        for (int what : new int[] {-1, 7, Integer.MIN_VALUE, Integer.MAX_VALUE}) {
            due.is("count(" + what + ")", x.count(what), BAD);
        }
        due.is("the constants", DearAsMany.BAD * 1000 + DearAsMany.NO * 100 + DearAsMany.FULL * 10 + DearAsMany.NONE, -1234);
    }
}
