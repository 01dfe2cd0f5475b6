/** Promises 8 to 13: buy, toss, sell, undo, price, would. */
public final class BuyingTest {
    private static final int[] NO_PERSONS = {-1, 5, 7, 31, Integer.MIN_VALUE, Integer.MAX_VALUE};
    private final Due due = new Due();

    public static void main(String[] args) {
        BuyingTest test = new BuyingTest();
        test.buy();
        test.buyNo();
        test.toss();
        test.sell();
        test.sellNo();
        test.undo();
        test.undoEight();
        test.price();
        test.would();
        test.due.end();
    }

    private void pennies(String where, DearAsMany x, int... dues) {
        for (int i = 0; i < dues.length; i++) {
            due.is("person(" + i + ", 4) " + where, x.person(i, 4), 1000 + dues[i]);
        }
    }

    private void buy() {
        DearAsMany x = Due.laid(TownsTest.TOWN);
        due.is("buy(25): each pays for the two others who buy", x.buy(25), 6);
        pennies("behind buy(25)", x, 48, 40, 30, 18, 97);
        due.is("count(1)", x.count(1), 25);
        due.is("buy(2): one household is his own", x.buy(2), 2);
        due.is("buy(4): one household of two counts once", x.buy(4), 3);
        pennies("behind all", x, 48, 38, 27, 18, 97);
        due.is("count(1)", x.count(1), 31);
        due.is("count(4)", x.count(4), 3);
        DearAsMany y = Due.laid("p0,0,9,3,0;p1,0,9,3,0;p2,0,0,3,0;");
        due.is("buy(7) of one household, to whom it is worth nothing", y.buy(7), 0);
    }

    private void buyNo() {
        DearAsMany x = Due.laid("p0,9,9,0,0;p0,9,9,1,1;p0,9,9,2,1;o0;");
        for (int set : new int[] {0, 8, 9, -1, -2, Integer.MIN_VALUE, Integer.MAX_VALUE}) {
            due.is("buy(" + set + ")", x.buy(set), DearAsMany.BAD);
        }
        due.is("buy(6): two pennies each, they have one", x.buy(6), DearAsMany.NO);
        due.is("buy(3): one owns one", x.buy(3), DearAsMany.NO);
        due.is("buy(1): one owns one", x.buy(1), DearAsMany.NO);
        pennies("behind NO", x, 0, 1, 1);
        due.is("count(1) behind NO", x.count(1), 1);
        due.is("count(4) behind NO", x.count(4), 0);
        due.is("buy(2): one penny, he has one", x.buy(2), 1);
        due.is("buy(4): two pennies, he has one", x.buy(4), DearAsMany.NO);
        pennies("behind buy(2)", x, 0, 0, 1);
        DearAsMany y = Due.laid("p0,9,9,0,9;p0,9,9,1,0;p0,9,9,2,9;");
        due.is("buy(7): one of them has nothing", y.buy(7), DearAsMany.NO);
        pennies("of all, behind NO", y, 9, 0, 9);
        due.is("buy(2): nothing is to be paid", y.buy(2), 0);
        DearAsMany z = Due.laid("p0,9,9,0,0;p0,9,9,1,9;");
        due.is("buy(3): the first has nothing", z.buy(3), DearAsMany.NO);
    }

    private void toss() {
        DearAsMany x = Due.laid(TownsTest.TOWN);
        x.buy(25);
        for (int i : NO_PERSONS) {
            due.is("toss(" + i + ")", x.toss(i), DearAsMany.BAD);
        }
        due.is("toss(1)", x.toss(1), DearAsMany.NO);
        due.is("count(4)", x.count(4), 1);
        due.is("toss(3)", x.toss(3), 2);
        due.is("toss(3) once more", x.toss(3), DearAsMany.NO);
        due.is("count(1)", x.count(1), 17);
        pennies("behind toss(3)", x, 48, 40, 30, 18, 97);
        due.is("count(4)", x.count(4), 2);
        due.is("toss(0)", x.toss(0), 1);
        due.is("toss(4)", x.toss(4), 0);
        due.is("count(1)", x.count(1), 0);
    }

    private void sell() {
        DearAsMany x = Due.laid(TownsTest.TOWN + "o0;o1;");
        due.is("sell(0, 3): but the seller one household", x.sell(0, 3), 1);
        pennies("behind sell(0, 3)", x, 51, 40, 30, 19, 99);
        due.is("count(1)", x.count(1), 10);
        due.is("sell(1, 4): in one household", x.sell(1, 4), 1);
        pennies("behind sell(1, 4)", x, 51, 41, 30, 19, 98);
        due.is("sell(3, 1): the household is his own", x.sell(3, 1), 0);
        due.is("count(1)", x.count(1), 18);
        due.is("sell(1, 2): the household has another one", x.sell(1, 2), 1);
        due.is("sell(2, 0)", x.sell(2, 0), 1);
        pennies("behind all", x, 50, 42, 30, 19, 98);
        due.is("count(1)", x.count(1), 17);
        due.is("count(4)", x.count(4), 5);
    }

    private void sellNo() {
        DearAsMany x = Due.laid("p0,9,9,0,9;p0,9,9,1,0;p0,9,9,2,9;p0,9,9,1,9;p0,9,9,4,1;o0;o2;");
        for (int i : NO_PERSONS) {
            due.is("sell(" + i + ", 1)", x.sell(i, 1), DearAsMany.BAD);
            due.is("sell(0, " + i + ")", x.sell(0, i), DearAsMany.BAD);
            due.is("sell(1, " + i + ")", x.sell(1, i), DearAsMany.BAD);
        }
        due.is("sell(0, 0)", x.sell(0, 0), DearAsMany.BAD);
        due.is("sell(1, 1)", x.sell(1, 1), DearAsMany.BAD);
        due.is("sell(0, 2): j owns one", x.sell(0, 2), DearAsMany.NO);
        due.is("sell(1, 3): i owns none", x.sell(1, 3), DearAsMany.NO);
        due.is("sell(1, 2): both", x.sell(1, 2), DearAsMany.NO);
        due.is("sell(0, 1): j has nothing", x.sell(0, 1), DearAsMany.NO);
        due.is("count(1)", x.count(1), 5);
        due.is("count(4)", x.count(4), 0);
        pennies("behind NO", x, 9, 0, 9, 9, 1);
        due.is("sell(0, 4): j has as much", x.sell(0, 4), 1);
        x.toss(2);
        due.is("sell(4, 1): nothing is to be paid", x.sell(4, 1), 0);
        pennies("behind it", x, 10, 0, 9, 9, 0);
    }

    private void undo() {
        DearAsMany x = Due.laid(TownsTest.TOWN);
        x.buy(25);
        x.toss(0);
        x.sell(3, 2);
        pennies("behind three", x, 48, 40, 29, 19, 97);
        x.buy(1024);
        x.buy(16);
        x.toss(0);
        due.is("undo() of sell", x.undo(), 2);
        due.is("count(1)", x.count(1), 24);
        pennies("behind undo() of sell", x, 48, 40, 30, 18, 97);
        due.is("undo() of toss", x.undo(), 1);
        due.is("count(1)", x.count(1), 25);
        due.is("count(4)", x.count(4), 1);
        due.is("toss(4) between", x.toss(4), 2);
        due.is("undo() of toss(4)", x.undo(), 1);
        due.is("undo() of buy", x.undo(), 0);
        due.is("count(1)", x.count(1), 0);
        pennies("behind undo() of buy", x, 50, 40, 30, 20, 99);
        due.is("undo() of nothing", x.undo(), DearAsMany.NO);
        due.is("count(1)", x.count(1), 0);
    }

    private void undoEight() {
        DearAsMany x = Due.laid("p0,9,9,0,9;p0,9,9,1,9;");
        int[] all = {x.buy(1), x.buy(2), x.toss(0), x.sell(1, 0), x.buy(2), x.toss(1), x.buy(2), x.toss(1), x.buy(2), x.toss(0)};
        int[] dues = {0, 1, 1, 0, 1, 1, 1, 1, 1, 1};
        for (int k = 0; k < all.length; k++) {
            due.is("call " + k, all[k], dues[k]);
        }
        due.is("count(4): eight at most", x.count(4), 8);
        pennies("behind all", x, 9, 5);
        int[] owners = {3, 1, 3, 1, 3, 1, 2, 3};
        int[][] pennies = {{9, 5}, {9, 6}, {9, 6}, {9, 7}, {9, 7}, {9, 8}, {9, 8}, {9, 8}};
        for (int left = 7; left >= 0; left--) {
            due.is("undo() " + left, x.undo(), left);
            due.is("count(1) behind undo() " + left, x.count(1), owners[7 - left]);
            pennies("behind undo() " + left, x, pennies[7 - left]);
        }
        due.is("undo() of the ninth", x.undo(), DearAsMany.NO);
        due.is("count(1): as behind the two oldest", x.count(1), 3);
        pennies("as behind the two oldest", x, 9, 8);
    }

    private void price() {
        DearAsMany x = Due.laid(TownsTest.TOWN);
        due.is("price(0), nobody owns one", x.price(0), 0);
        x.buy(26);
        due.is("price(0): two households", x.price(0), 2);
        due.is("price(2): two households", x.price(2), 2);
        for (int i : new int[] {1, 3, 4}) {
            due.is("price(" + i + ") of an owner", x.price(i), DearAsMany.NO);
        }
        x.toss(1);
        due.is("price(1): not his own household", x.price(1), 1);
        for (int i : NO_PERSONS) {
            due.is("price(" + i + ")", x.price(i), DearAsMany.BAD);
        }
    }

    private void would() {
        DearAsMany x = Due.laid("p0,1,9,0,0;p0,0,9,1,0;p1,9,9,2,0;p2,9,9,3,0;p3,9,9,4,0;p0,9,0,0,0;");
        due.is("would(0): worth more than 0, without a penny", x.would(0), 1 + 4 + 8 + 32);
        due.is("would(1): nobody owns one", x.would(1), 0);
        x.buy(1);
        due.is("would(0), one owns one", x.would(0), 32);
        due.is("would(1)", x.would(1), 0);
        x = Due.laid("p0,1,9,0,0;p0,2,9,1,0;p1,9,9,2,0;p2,9,9,3,0;p3,3,9,4,0;p0,9,0,5,0;p3,2,9,6,0;o0;o1;o3;o5;");
        due.is("would(0): 3 is not more than 4 others", x.would(0), 0);
        due.is("would(1): FOP, and 9 less 3 times 9", x.would(1), 8 + 32);
        x.toss(3);
        x.toss(5);
        due.is("would(0): 3 is more than two, 2 is not", x.would(0), 16);
        due.is("would(1): worth no less than 0", x.would(1), 0);
        for (int what : new int[] {-1, 2, Integer.MIN_VALUE, Integer.MAX_VALUE}) {
            due.is("would(" + what + ")", x.would(what), DearAsMany.BAD);
        }
        x = Due.laid("p0,9,9,0,0;p0,10,9,1,0;p0,0,9,2,0;p3,0,9,3,0;o2;o3;s41;");
        due.is("would(0) in a poor season", x.would(0), 0);
        due.is("would(1) in a poor season: a FOLLOWER of one stays", x.would(1), 4);
    }
}
