/** Each sentence about buying, selling, UNDONE and who WOULD that names a bound: the last that is told, the first that is none. */
public final class BuyingBoundsTest {
    private static final int BAD = DearAsMany.BAD, NO = DearAsMany.NO, NONE = DearAsMany.NONE;
    private static final int[] FAR = {32, 33, 64, 256, 257, 65536, 1 << 30, Integer.MAX_VALUE, Integer.MIN_VALUE,
        Integer.MIN_VALUE + 1, -31, -32, -256};
    private static final String CALM = Due.calm(7);
    private final Due due = new Due();

    public static void main(String[] args) {
        BuyingBoundsTest test = new BuyingBoundsTest();
        test.setsToBuy();
        test.enoughPenniesToBuy();
        test.enoughPenniesToBePaid();
        test.allAtOnce();
        test.personsWhoThrowAway();
        test.enoughPenniesForTheSeller();
        test.personsWhoSell();
        test.richSeller();
        test.lastEightUndone();
        test.undoneAgainAndAgain();
        test.personsWithPrice();
        test.worthMoreThanPrice();
        test.worthBelowNothing();
        test.kindsThatWould();
        test.whatOfWould();
        test.due.end();
    }

    /** buy(): "BAD (0, too)"; "sets of PERSONS there are". */
    private void setsToBuy() {
        for (int many = 1; many <= 7; many++) {
            for (int set = -2; set <= 130; set++) {
                DearAsMany x = Due.laid(Due.calm(many));
                boolean told = set > 0 && set < 1 << many;
                int buyers = Integer.bitCount(set);
                due.is("buy(" + set + ") of " + many, x.buy(set), told ? buyers * (buyers - 1) : BAD);
                due.is("count(1) behind buy(" + set + ") of " + many, x.count(1), told ? set : 0);
            }
            for (int set : FAR) {
                if (set < 0 || set >= 1 << many) {
                    due.is("buy(" + set + ") of " + many, Due.laid(Due.calm(many)).buy(set), BAD);
                }
            }
        }
    }

    /** "one has not so much": as many pennies as OTHERS, and one penny less, for 0 to 6 OTHERS who own one already. */
    private void enoughPenniesToBuy() {
        for (int others = 0; others <= 6; others++) {
            for (int pennies = 0; pennies <= 7; pennies++) {
                DearAsMany x = Due.laid("p0,0,9,7,0" + pennies + ";" + Due.calm(6) + Due.owners((2 << others) - 2));
                String call = "buy(1) by " + others + " OTHERS with " + pennies;
                boolean enough = pennies >= others;
                due.is(call, x.buy(1), enough ? others : NO);
                due.is("person(0, 4) behind " + call, x.person(0, 4), 1000 + (enough ? pennies - others : pennies));
                due.is("person(0, 5) behind " + call, x.person(0, 5), enough ? 1 : 0);
            }
        }
    }

    /** The same for those who buy at once: "by OWNERS and that set together". */
    private void enoughPenniesToBePaid() {
        for (int last = 0; last <= 6; last++) {
            for (int pennies = 0; pennies <= 7; pennies++) {
                StringBuilder town = new StringBuilder();
                for (int i = 0; i <= 6; i++) {
                    town.append("p0,0,9,").append(i).append(',').append(i == last ? pennies : 6).append(';');
                }
                DearAsMany x = Due.laid(town.toString());
                String call = "buy(127), " + last + " with " + pennies;
                due.is(call, x.buy(127), pennies >= 6 ? 42 : NO);
                due.is("person(" + last + ", 4) behind " + call, x.person(last, 4), 1000 + pennies % 6);
                due.is("person(" + (6 - last) + ", 5) behind " + call, x.person(6 - last, 5), pennies >= 6 ? 1 : 0);
            }
        }
    }

    /** All own one then; "one owns one" of one alone and of one among others. */
    private void allAtOnce() {
        DearAsMany x = Due.laid(CALM);
        due.is("buy(127)", x.buy(127), 42);
        for (int set = 1; set < 128; set++) {
            due.is("buy(" + set + ") where all own one", x.buy(set), NO);
        }
        due.is("count(4)", x.count(4), 1);
        for (int i = 0; i < 7; i++) {
            DearAsMany y = Due.laid(CALM + "o" + i + ";");
            due.is("buy(127), " + i + " owning one", y.buy(127), NO);
            due.is("buy of " + i + ", owning one", y.buy(1 << i), NO);
            due.is("buy of all others", y.buy(127 ^ 1 << i), 36);
        }
        due.is("buy(127) of one HOUSEHOLD without a penny", Due.laid("p0,0,9,4,0;".repeat(7)).buy(127), 0);
    }

    /** toss(): from all to nobody, and nobody any more. */
    private void personsWhoThrowAway() {
        for (int many = 1; many <= 7; many++) {
            DearAsMany x = Due.laid(Due.calm(many) + Due.owners((1 << many) - 1));
            for (int i = -2; i <= 9; i++) {
                boolean there = i >= 0 && i < many;
                due.is("toss(" + i + ") of " + many, x.toss(i), there ? many - 1 - i : BAD);
                due.is("toss(" + i + ") once more of " + many, x.toss(i), there ? NO : BAD);
            }
            due.is("count(1) behind all of " + many, x.count(1), 0);
            for (int i : FAR) {
                due.is("toss(" + i + ") of " + many, x.toss(i), BAD);
            }
        }
        DearAsMany one = Due.laid("p0,0,9,4,0;".repeat(7) + Due.owners(127));
        due.is("toss(3) of one HOUSEHOLD: PERSONS are told", one.toss(3), 6);
    }

    /** sell(): "j .. has not so much", for 0 to 5 OTHERS but the seller. */
    private void enoughPenniesForTheSeller() {
        for (int others = 0; others <= 5; others++) {
            for (int pennies = 0; pennies <= 6; pennies++) {
                DearAsMany x = Due.laid("p0,0,9,7,0" + pennies + ";" + Due.calm(6) + Due.owners((4 << others) - 2));
                String call = "sell(1, 0) by " + others + " OTHERS, 0 with " + pennies;
                boolean enough = pennies >= others;
                due.is(call, x.sell(1, 0), enough ? others : NO);
                due.is("person(0, 4) behind " + call, x.person(0, 4), 1000 + (enough ? pennies - others : pennies));
                due.is("person(1, 4) behind " + call, x.person(1, 4), 1009 + (enough ? others : 0));
                due.is("person(1, 5) behind " + call, x.person(1, 5), enough ? 0 : 1);
                due.is("person(0, 5) behind " + call, x.person(0, 5), enough ? 1 : 0);
            }
        }
    }

    /** sell(): BAD "(one PERSON twice, too)"; NO. */
    private void personsWhoSell() {
        for (int many = 1; many <= 7; many++) {
            for (int i = -1; i <= 8; i++) {
                for (int j = -1; j <= 8; j++) {
                    DearAsMany x = Due.laid(Due.calm(many) + "o0;");
                    boolean told = i >= 0 && i < many && j >= 0 && j < many && i != j;
                    due.is("sell(" + i + ", " + j + ") of " + many, x.sell(i, j), !told ? BAD : i == 0 ? 0 : NO);
                    due.is("count(1) behind it", x.count(1), told && i == 0 ? 1 << j : 1);
                }
            }
            for (int far : FAR) {
                DearAsMany x = Due.laid(Due.calm(many) + "o0;");
                due.is("sell(0, " + far + ") of " + many, x.sell(0, far), BAD);
                due.is("sell(" + far + ", 0) of " + many, x.sell(far, 0), BAD);
                due.is("sell(" + far + ", " + far + ") of " + many, x.sell(far, far), BAD);
            }
        }
        DearAsMany all = Due.laid(CALM + Due.owners(127));
        due.is("sell(0, 6), j owning one", all.sell(0, 6), NO);
    }

    /** Pennies may come to more than the 99 that can be told at first. */
    private void richSeller() {
        DearAsMany x = Due.laid("p0,0,9,0,99;p0,0,9,1,99;p0,0,9,2,99;p0,0,9,3,99;o0;o1;o2;");
        due.is("sell(0, 3)", x.sell(0, 3), 2);
        due.is("person(0, 4)", x.person(0, 4), 1101);
        due.is("person(3, 4)", x.person(3, 4), 1097);
        due.is("keep()", x.keep(), 1);
        due.is("undo()", x.undo(), 0);
        due.is("person(0, 4) behind undo()", x.person(0, 4), 1099);
        due.is("back()", x.back(), 0);
        due.is("person(0, 4) behind back()", x.person(0, 4), 1101);
    }

    /** "UNDONE is the latest buy(), toss(), sell() (the last 8 can be)": of 0 to 20 such. */
    private void lastEightUndone() {
        for (int done = 0; done <= 20; done++) {
            DearAsMany x = Due.laid(CALM);
            int[] owners = new int[done + 1];
            for (int k = 1; k <= done; k++) {
                doNumber(x, k);
                owners[k] = x.count(1);
                due.is("count(4) behind " + k, x.count(4), Math.min(k, 8));
            }
            int can = Math.min(done, 8);
            for (int k = 1; k <= can; k++) {
                due.is("undo() number " + k + " of " + done, x.undo(), can - k);
                due.is("count(1) behind undo() number " + k + " of " + done, x.count(1), owners[done - k]);
                due.is("count(4) behind undo() number " + k + " of " + done, x.count(4), can - k);
            }
            due.is("undo() of no more of " + done, x.undo(), NO);
            due.is("count(1) behind NO of " + done, x.count(1), owners[done - can]);
        }
    }

    /** In turns one buys, sells to the next, and he throws away: the first three with 0 and 1, then with 1 and 2, and so on. */
    private void doNumber(DearAsMany x, int k) {
        int i = (k - 1) / 3 % 6;
        int step = (k - 1) % 3;
        int answer = step == 0 ? x.buy(1 << i) : step == 1 ? x.sell(i, i + 1) : x.toss(i + 1);
        due.is("what is done as number " + k, answer, 0);
    }

    /** What is UNDONE leaves room for what is done then; a refused call is none of the last 8. */
    private void undoneAgainAndAgain() {
        DearAsMany x = Due.laid(CALM);
        for (int k = 0; k < 8; k++) {
            due.is("call " + k, k % 2 == 0 ? x.buy(1) : x.toss(0), 0);
        }
        for (int k = 0; k < 20; k++) {
            due.is("a refused toss", x.toss(0), NO);
            due.is("a refused buy", x.buy(128), BAD);
            due.is("a refused sell", x.sell(0, 1), NO);
        }
        due.is("count(4)", x.count(4), 8);
        for (int k = 0; k < 12; k++) {
            due.is("undo()", x.undo(), 7);
            due.is("count(1) behind undo()", x.count(1), 1);
            due.is("toss(0) again", x.toss(0), 0);
            due.is("count(4) again", x.count(4), 8);
        }
        for (int left = 7; left >= 0; left--) {
            due.is("undo() of all", x.undo(), left);
            due.is("count(1) behind it", x.count(1), left % 2);
        }
        due.is("undo() of no more", x.undo(), NO);
    }

    /** price(): BAD; NO; of nobody and of all others. */
    private void personsWithPrice() {
        for (int many = 1; many <= 7; many++) {
            for (int set = 0; set < 1 << many; set++) {
                DearAsMany x = Due.laid(Due.calm(many) + Due.owners(set));
                for (int i = -1; i <= 7; i++) {
                    boolean there = i >= 0 && i < many;
                    int want = !there ? BAD : (set >> i & 1) == 1 ? NO : Integer.bitCount(set);
                    due.is("price(" + i + ") by " + set + " of " + many, x.price(i), want);
                }
            }
            for (int i : FAR) {
                due.is("price(" + i + ") of " + many, Due.laid(Due.calm(many)).price(i), BAD);
            }
        }
        due.is("price(0), all of his HOUSEHOLD", Due.laid("p0,0,9,4,0;".repeat(7) + Due.owners(126)).price(0), 0);
    }

    /** "He WOULD buy, if WORTH .. is more than that, however many pennies he has": by 0 to 6 OTHERS as much, and one more. */
    private void worthMoreThanPrice() {
        for (int others = 0; others <= 6; others++) {
            for (int worth = 0; worth <= 8; worth++) {
                String town = "p0," + worth + ",9,7,0;" + Due.calm(6) + Due.owners((2 << others) - 2);
                DearAsMany x = Due.laid(town);
                due.is("would(0) & 1 of " + town, x.would(0) & 1, worth > others ? 1 : 0);
                due.is("behind(1, false) & 1 of " + town, x.behind(1, false) & 1, worth > others ? 1 : 0);
                due.is("behind(1, true) & 1 of " + town, x.behind(1, true) & 1, worth > others ? 1 : 0);
                due.is("burn(0) of " + town, x.burn(0), leastBurnt(others, worth));
            }
        }
    }

    /** Of the lowest OWNERS as many as let fewer OTHERS than what it is worth. */
    private static int leastBurnt(int others, int worth) {
        if (worth == 0) {
            return NONE;
        }
        int burnt = Math.max(0, others - worth + 1);
        return (2 << burnt) - 2;
    }

    /** "Who owns one would be RID of it, if WORTH to him by OWNERS is below 0": 0, and one less, by 0 to 6 OTHERS. */
    private void worthBelowNothing() {
        for (int others = 0; others <= 6; others++) {
            for (int s = 47; s <= 50; s++) {
                int w = 2 * others + 1;
                String town = "p0," + w + ",7,7,0;" + Due.calm(6) + Due.owners((2 << others) - 1) + "s" + s + ";";
                DearAsMany x = Due.laid(town);
                int worth = w + s - 50 - 2 * others;
                due.is("worth(0, ..) of " + town, x.worth(0, x.count(1)), 1000 + worth);
                due.is("would(1) & 1 of " + town, x.would(1) & 1, worth < 0 ? 1 : 0);
                due.is("would(0) & 1 of " + town, x.would(0) & 1, 0);
                due.is("behind(1, true) & 1 of " + town, x.behind(1, true) & 1, worth < 0 ? 0 : 1);
                due.is("behind(1, false) & 1 of " + town, x.behind(1, false) & 1, worth < 0 ? 0 : 1);
            }
        }
    }

    /** Each KIND owning one and none, alone, with one of his own HOUSEHOLD, with one OTHER, with two. */
    private void kindsThatWould() {
        String[] with = {"", "o1;", "o2;", "o2;o3;"};
        int[][] buys = {{1, 1, 1, 1}, {1, 1, 0, 0}, {1, 1, 0, 0}, {0, 0, 0, 1}};
        int[][] rids = {{0, 0, 0, 0}, {0, 0, 0, 0}, {0, 0, 1, 1}, {0, 0, 0, 0}};
        int[][] ridsPoor = {{1, 1, 1, 1}, {1, 1, 0, 0}, {1, 1, 1, 1}, {0, 0, 0, 1}};
        for (int kind = 0; kind <= 3; kind++) {
            for (int k = 0; k < with.length; k++) {
                String town = "p" + kind + ",9,9,0,0;p0,0,9,0,0;p0,0,9,1,0;p0,0,9,2,0;" + with[k];
                String poor = town + "o0;s40;";
                due.is("would(0) & 1 of " + town, Due.laid(town).would(0) & 1, buys[kind][k]);
                due.is("would(1) & 1 of " + town, Due.laid(town).would(1) & 1, 0);
                due.is("would(1) & 1 of it with o0;", Due.laid(town + "o0;").would(1) & 1, rids[kind][k]);
                due.is("would(0) & 1 of it with o0;", Due.laid(town + "o0;").would(0) & 1, 0);
                due.is("would(1) & 1 of " + poor, Due.laid(poor).would(1) & 1, ridsPoor[kind][k]);
            }
        }
    }

    /** "(what = 0) .. (1) .. BAD", nobody and all. */
    private void whatOfWould() {
        String all = "p0,1,9,4,0;".repeat(7);
        int[] eager = {BAD, BAD, 127, 0, BAD, BAD};
        int[] tired = {BAD, BAD, 0, 127, BAD, BAD};
        int[] calm = {BAD, BAD, 0, 0, BAD, BAD};
        for (int what = -2; what <= 3; what++) {
            due.is("would(" + what + ") of the eager", Due.laid(all).would(what), eager[what + 2]);
            due.is("would(" + what + ") of the tired", Due.laid(all + Due.owners(127) + "s48;").would(what), tired[what + 2]);
            due.is("would(" + what + ") of the calm", Due.laid(all + Due.owners(127) + "s49;").would(what), calm[what + 2]);
        }
        for (int what : FAR) {
            due.is("would(" + what + ")", Due.laid(all).would(what), BAD);
        }
    }
}
