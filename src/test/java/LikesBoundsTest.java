import java.math.BigInteger;

/** Each sentence about SEEN, LIKES, a YEAR and KEPT that names a bound: the last that is told, the first that is none. */
public final class LikesBoundsTest {
    private static final int BAD = DearAsMany.BAD, NO = DearAsMany.NO, FULL = DearAsMany.FULL, NONE = DearAsMany.NONE;
    private static final int[] FAR = {32, 33, 64, 256, 257, 65536, 1 << 30, Integer.MAX_VALUE, Integer.MIN_VALUE,
        Integer.MIN_VALUE + 1, -31, -32, -256};
    private static final String CALM = Due.calm(7);
    private static final String RICH = CALM.replace("9;", "99;");
    private final Due due = new Due();

    public static void main(String[] args) {
        LikesBoundsTest test = new LikesBoundsTest();
        test.eightSeen();
        test.personsSeenWithOthers();
        test.allOfThemCount();
        test.likingsFromNothing();
        test.likingsOfTastes();
        test.likingsOfFollowers();
        test.whoLikesAndWhat();
        test.showersAndDays();
        test.farthestYear();
        test.firstAndLastDay();
        test.twoKept();
        test.keptAlike();
        test.whatIsCounted();
        test.due.end();
    }

    // ---- SEEN, LIKES

    /** "SEEN (8 at most)", of all PERSONS together; FULL; forget(): "how many were". */
    private void eightSeen() {
        for (int many = 0; many <= 10; many++) {
            DearAsMany x = Due.laid(CALM);
            for (int k = 0; k < many; k++) {
                due.is("seen number " + k, x.seen(k % 7, k % 8, false), k < 8 ? k + 1 : FULL);
            }
            int were = Math.min(many, 8);
            due.is("count(3) of " + many, x.count(3), were);
            due.is("forget() of " + many, x.forget(), were);
            due.is("count(3) behind forget()", x.count(3), 0);
            due.is("forget() of nothing", x.forget(), 0);
            for (int k = 0; k < 8; k++) {
                due.is("seen number " + k + " behind forget()", x.seen(3, 0, true), k + 1);
            }
            due.is("seen number 8 behind forget()", x.seen(3, 0, true), FULL);
        }
    }

    /** seen(): "with n OTHERS (0 to 7)"; PERSONS there are; BAD ahead of FULL. */
    private void personsSeenWithOthers() {
        for (int many = 1; many <= 7; many++) {
            for (int before : new int[] {0, 8}) {
                for (int i = -2; i <= 9; i++) {
                    for (int n = -2; n <= 10; n++) {
                        DearAsMany x = Due.laid(Due.calm(many));
                        for (int k = 0; k < before; k++) {
                            x.seen(0, 0, true);
                        }
                        boolean told = i >= 0 && i < many && n >= 0 && n <= 7;
                        String call = "seen(" + i + ", " + n + ", true) of " + many + " behind " + before;
                        due.is(call, x.seen(i, n, true), !told ? BAD : before == 8 ? FULL : 1);
                        due.is("count(3) behind " + call, x.count(3), told && before == 0 ? 1 : before);
                    }
                }
            }
        }
        DearAsMany x = Due.laid(CALM);
        for (int far : FAR) {
            due.is("seen(" + far + ", 0, true)", x.seen(far, 0, true), BAD);
            due.is("seen(0, " + far + ", false)", x.seen(0, far, false), BAD);
        }
        due.is("count(3) behind BAD ones", x.count(3), 0);
    }

    /** "in all that was SEEN of him": whichever of the eight it is, and of nobody else. */
    private void allOfThemCount() {
        for (int which = 0; which < 8; which++) {
            DearAsMany x = Due.laid(CALM);
            for (int k = 0; k < 8; k++) {
                x.seen(k == which ? 3 : 4, k == which ? 5 : 0, true);
            }
            due.is("likes(3, 0), number " + which + " being his", x.likes(3, 0), 94);
            due.is("likes(3, 1), number " + which + " being his", x.likes(3, 1), 6);
            due.is("likes(4, 0), number " + which + " being another's", x.likes(4, 0), 99);
            due.is("likes(0, 0), none being his", x.likes(0, 0), 100);
            due.is("likes(0, 1), none being his", x.likes(0, 1), 0);
        }
    }

    private void liked(String town, int n, boolean bought, int many, int lowest) {
        DearAsMany x = Due.laid(town);
        String call = " of " + town + ", seen with " + n + ", bought " + bought;
        x.seen(0, n, bought);
        due.is("likes(0, 0)" + call, x.likes(0, 0), many);
        due.is("likes(0, 1)" + call, x.likes(0, 1), lowest);
    }

    /** "how many W of 0 to 99": 0 and 99 are of them; just one; none; "S being 50". */
    private void likingsFromNothing() {
        for (String season : new String[] {"", "s0;", "s99;"}) {
            for (int n = 0; n <= 7; n++) {
                liked("p0,7,9,0,0;" + season, n, true, 99 - n, n + 1);
                liked("p0,7,9,0,0;" + season, n, false, n + 1, 0);
                for (int m = 0; m <= 7; m++) {
                    DearAsMany x = Due.laid("p0,7,9,0,0;" + season);
                    x.seen(0, n, true);
                    x.seen(0, m, false);
                    int fit = Math.max(0, m - n);
                    due.is("likes(0, 0), bought with " + n + ", not with " + m, x.likes(0, 0), fit);
                    due.is("likes(0, 1), bought with " + n + ", not with " + m, x.likes(0, 1), fit == 0 ? NONE : n + 1);
                }
            }
        }
    }

    /** "his KIND and C as they are": of C 0 to 18 and n 0 to 7, W is to be more than 10 n less C n. */
    private void likingsOfTastes() {
        for (int c = 0; c <= 18; c++) {
            for (int n = 0; n <= 7; n++) {
                int least = Math.max(0, n - (c - 9) * n + 1);
                String plain = "p0,50," + c + ",0,0;";
                liked(plain, n, true, 100 - least, least);
                liked(plain, n, false, least, least == 0 ? NONE : 0);
                for (int kind = 1; kind <= 2; kind++) {
                    String one = "p" + kind + ",50," + c + ",0,0;";
                    liked(one, n, true, n == 0 ? 99 : 0, n == 0 ? 1 : NONE);
                    liked(one, n, false, n == 0 ? 1 : 100, 0);
                }
            }
        }
    }

    /** A FOLLOWER with 0, 1 and 2 OTHERS. */
    private void likingsOfFollowers() {
        for (int n = 0; n <= 7; n++) {
            liked("p3,50,9,0,0;", n, true, n < 2 ? 0 : 99 - n, n < 2 ? NONE : n + 1);
            liked("p3,50,9,0,0;", n, false, n < 2 ? 100 : n + 1, 0);
        }
    }

    /** likes(): BAD, whether any W would fit or not. */
    private void whoLikesAndWhat() {
        for (int many = 1; many <= 7; many++) {
            DearAsMany x = Due.laid(Due.calm(many));
            for (int turn = 0; turn < 2; turn++) {
                for (int i = -2; i <= 9; i++) {
                    boolean there = i >= 0 && i < many;
                    boolean never = turn == 1 && i == 0;
                    due.is("likes(" + i + ", 0) of " + many, x.likes(i, 0), !there ? BAD : never ? 0 : 100);
                    due.is("likes(" + i + ", 1) of " + many, x.likes(i, 1), !there ? BAD : never ? NONE : 0);
                    due.is("likes(" + i + ", -1) of " + many, x.likes(i, -1), BAD);
                    due.is("likes(" + i + ", 2) of " + many, x.likes(i, 2), BAD);
                }
                for (int far : FAR) {
                    due.is("likes(" + far + ", 0) of " + many, x.likes(far, 0), BAD);
                    due.is("likes(0, " + far + ") of " + many, x.likes(0, far), BAD);
                }
                x.seen(0, 3, true);
                x.seen(0, 3, false);
            }
        }
    }

    // ---- a YEAR

    /** "A YEAR by z (0 to 9999) of n (1 to 100) days"; what 0 and 1; BAD. */
    private void showersAndDays() {
        DearAsMany x = Due.laid("p0,99,9,0,0;o0;");
        for (int z : new int[] {-2, -1, 0, 1, 9998, 9999, 10000, 10001}) {
            for (int n : new int[] {-1, 0, 1, 2, 99, 100, 101, 102}) {
                boolean told = z >= 0 && z <= 9999 && n >= 1 && n <= 100;
                due.is("year(" + z + ", " + n + ", 0)", x.year(z, n, 0), told ? 1 : BAD);
                due.is("year(" + z + ", " + n + ", 1)", x.year(z, n, 1), told ? 0 : BAD);
                due.is("year(" + z + ", " + n + ", -1)", x.year(z, n, -1), BAD);
                due.is("year(" + z + ", " + n + ", 2)", x.year(z, n, 2), BAD);
            }
        }
        for (int far : new int[] {65536, 1 << 30, Integer.MAX_VALUE, Integer.MIN_VALUE, -256, -65536}) {
            due.is("year(" + far + ", 1, 0)", x.year(far, 1, 0), BAD);
            due.is("year(1, " + far + ", 0)", x.year(1, far, 0), BAD);
            due.is("year(1, 1, " + far + ")", x.year(1, 1, far), BAD);
        }
    }

    /** S on day t, in numbers that have no bound. */
    private static int seasonOn(int z, int t) {
        BigInteger x = BigInteger.valueOf(7919).multiply(BigInteger.valueOf(z))
                .add(BigInteger.valueOf(6151).multiply(BigInteger.valueOf(t))).add(BigInteger.ONE);
        return x.multiply(x).mod(BigInteger.valueOf(65521)).mod(BigInteger.valueOf(100)).intValue();
    }

    /** One PERSON by the seasons of the first and the last z and days there can be. */
    private void farthestYear() {
        for (int w : new int[] {0, 20, 49}) {
            for (int z : new int[] {0, 1, 4, 5, 8, 600, 5000, 9998, 9999}) {
                DearAsMany x = Due.laid("p0," + w + ",9,0,0;");
                int owns = 0;
                int best = -1;
                for (int t = 0; t < 100; t++) {
                    int worth = w + seasonOn(z, t) - 50;
                    owns = worth > 0 ? 1 : worth < 0 ? 0 : owns;
                    best = best < 0 && owns == 1 ? t : best;
                    String call = "year(" + z + ", " + (t + 1) + ", .) for " + w;
                    due.is(call + " what 0", x.year(z, t + 1, 0), owns);
                    due.is(call + " what 1", x.year(z, t + 1, 1), Math.max(best, 0));
                }
            }
        }
    }

    /** "the day behind which most are, the first": day 0, where nobody owns one ever or all do; day 99, where only it is rich enough. */
    private void firstAndLastDay() {
        DearAsMany never = Due.laid("p3,0,9,0,0;p3,0,9,1,0;");
        due.is("year(9999, 100, 0) of nobody", never.year(9999, 100, 0), 0);
        due.is("year(9999, 100, 1) of nobody", never.year(9999, 100, 1), 0);
        DearAsMany always = Due.laid("p3,0,9,0,0;p3,0,9,1,0;o0;o1;");
        due.is("year(0, 100, 0) of all", always.year(0, 100, 0), 2);
        due.is("year(0, 100, 1) of all", always.year(0, 100, 1), 0);
        int found = 0;
        for (int z = 0; z <= 9999; z++) {
            int most = 0;
            for (int t = 0; t < 99; t++) {
                most = Math.max(most, seasonOn(z, t));
            }
            if (seasonOn(z, 99) > most) {
                found++;
                lastDay(z, most);
            }
        }
        due.is("some z has its richest day last", found > 0 ? 1 : 0, 1);
    }

    /** One buys just in a season above the most of the 99 days ahead; of OTHERS, who always own one, so many that his W is told. */
    private void lastDay(int z, int most) {
        int others = 1;
        while (50 - most + 10 * others < 0) {
            others++;
        }
        StringBuilder town = new StringBuilder();
        for (int k = 0; k < others; k++) {
            town.append("p0,99,9,").append(k).append(",0;o").append(k).append(';');
        }
        // C 0: 9 less for each of OTHERS, and a penny to be paid
        town.append("p0,").append(50 - most + 10 * others).append(",0,7,0;");
        DearAsMany x = Due.laid(town.toString());
        due.is("year(" + z + ", 100, 1) of " + town, x.year(z, 100, 1), 99);
        due.is("year(" + z + ", 99, 1) of " + town, x.year(z, 99, 1), 0);
        due.is("year(" + z + ", 100, 0) of " + town, x.year(z, 100, 0), others + 1);
        due.is("year(" + z + ", 99, 0) of " + town, x.year(z, 99, 0), others);
    }

    // ---- KEPT, counts

    /** "KEPT are OWNERS and pennies: 2 at most"; FULL; NO. */
    private void twoKept() {
        DearAsMany x = Due.laid(CALM);
        for (int turn = 0; turn < 5; turn++) {
            due.is("back() of nothing", x.back(), NO);
            due.is("keep()", x.keep(), 1);
            due.is("keep() of a second", x.keep(), 2);
            due.is("keep() of a third", x.keep(), FULL);
            due.is("keep() of a third once more", x.keep(), FULL);
            due.is("count(5)", x.count(5), 2);
            due.is("back()", x.back(), 1);
            due.is("keep() where one is left", x.keep(), 2);
            due.is("back()", x.back(), 1);
            due.is("back() of the last", x.back(), 0);
            due.is("count(5) of none", x.count(5), 0);
        }
    }

    /** "As KEPT last (it is KEPT no more then) ..; nothing is UNDONE then": what is KEPT stays, whatever is done. */
    private void keptAlike() {
        DearAsMany x = Due.laid(RICH);
        x.buy(3);
        x.keep();
        x.buy(12);
        x.keep();
        for (int k = 0; k < 9; k++) {
            due.is("toss and buy", k % 2 == 0 ? x.toss(0) : x.buy(1), 3);
        }
        due.is("count(4), all that can be", x.count(4), 8);
        due.is("keep() of a third", x.keep(), FULL);
        due.is("back()", x.back(), 1);
        due.is("count(1) as KEPT last", x.count(1), 15);
        due.is("person(0, 4) as KEPT last", x.person(0, 4), 1098);
        due.is("person(2, 4) as KEPT last", x.person(2, 4), 1096);
        due.is("undo() behind back()", x.undo(), NO);
        x.toss(3);
        due.is("undo() of what is done then", x.undo(), 0);
        due.is("count(1) behind it", x.count(1), 15);
        x.toss(3);
        due.is("back() once more", x.back(), 0);
        due.is("count(1) as KEPT first", x.count(1), 3);
        due.is("person(2, 4) as KEPT first", x.person(2, 4), 1099);
        due.is("count(4) behind back()", x.count(4), 0);
        x.toss(0);
        due.is("back() of no more", x.back(), NO);
        due.is("count(4) behind NO", x.count(4), 1);
    }

    /** count(): "0 .. 6 .. BAD", of the empty and of the full. */
    private void whatIsCounted() {
        DearAsMany full = Due.laid(RICH + "o6;s99;");
        Due.write(full, ";".repeat(300 - full.count(6)));
        for (int k = 0; k < 8; k++) {
            full.buy(k % 2 == 0 ? 1 : 2);
            full.toss(k % 2);
            full.seen(0, 0, true);
        }
        full.buy(63);
        full.keep();
        full.keep();
        int[] most = {BAD, BAD, 7, 127, 99, 8, 8, 2, 300, BAD, BAD};
        int[] least = {BAD, BAD, 3, 0, 50, 0, 0, 0, 0, BAD, BAD};
        for (int what = -2; what <= 8; what++) {
            due.is("count(" + what + ") of the full", full.count(what), most[what + 2]);
            due.is("count(" + what + ") of a new object", new DearAsMany().count(what), least[what + 2]);
        }
        for (int what : FAR) {
            due.is("count(" + what + ")", full.count(what), BAD);
        }
    }
}
