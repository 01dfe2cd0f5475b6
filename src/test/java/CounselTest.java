/** Promises 18 to 20: place, burn, share. */
public final class CounselTest {
    private static final int NO = DearAsMany.NO, NONE = DearAsMany.NONE, BAD = DearAsMany.BAD;
    private static final int[] NO_PERSONS = {-1, 4, 7, Integer.MIN_VALUE, Integer.MAX_VALUE};
    private final Due due = new Due();

    public static void main(String[] args) {
        CounselTest test = new CounselTest();
        test.place();
        test.placeWrong();
        test.burn();
        test.burnWrong();
        test.share();
        test.nothingChanges();
        test.due.end();
    }

    private void placeOf(String town, int i, int ahead, int gain) {
        DearAsMany x = Due.laid(town);
        due.is("place(" + i + ", 0) of " + town, x.place(i, 0), ahead);
        due.is("place(" + i + ", 1) of " + town, x.place(i, 1), gain + 1000);
    }

    private void place() {
        placeOf("p0,5,9,0,0;", 0, 0, 5);
        // worth to him 9 more for one who buys only as long as nobody has it
        placeOf("p0,5,18,0,0;p1,5,9,1,0;", 0, 1, 13);
        // the same, but for nothing, being of his household
        placeOf("p0,5,18,0,0;p1,5,9,0,0;", 0, 0, 5);
        // one who never buys is ahead of him in vain: the first of several
        placeOf("p0,5,18,0,0;p0,0,9,1,0;p1,5,9,2,0;", 0, 2, 13);
        placeOf("p0,5,18,0,0;p1,5,9,1,0;p0,0,9,2,0;", 0, 1, 13);
        placeOf("p1,5,9,1,0;p0,5,18,0,0;p0,0,9,2,0;", 1, 1, 13);
        placeOf("p0,0,9,0,0;p0,0,9,1,0;p0,0,9,2,0;", 1, 0, 0);
        // whoever owns one does not come
        placeOf("p0,5,18,0,0;p0,9,9,3,0;p1,5,9,1,0;o1;", 0, 0, 13);
        placeOf("p0,5,18,0,0;p0,9,9,3,0;p0,3,9,1,0;o1;", 0, 0, 22);
        // he buys although he would not; the others do only if they would then, but without a penny
        placeOf("p0,0,0,0,0;p0,2,9,1,0;p0,1,9,2,0;", 0, 0, -9);
        placeOf("p0,0,0,0,0;p0,2,9,1,0;p0,2,9,2,0;s49;", 0, 0, -1);
        placeOf("p2,9,9,0,0;p0,1,9,1,0;p0,2,9,2,0;", 0, 0, -1);
        // the FOLLOWER buys behind two, and is then worth 9 to him, who paid 1 or 2
        placeOf("p0,0,18,0,9;p1,1,9,1,9;p3,9,9,2,9;p0,9,9,3,9;", 0, 1, 26);
        placeOf("p0,4,9,1,0;p0,4,9,0,0;p2,4,9,2,0;p3,9,9,3,0;o0;", 1, 0, 3);
    }

    private void placeWrong() {
        DearAsMany x = Due.laid("p0,5,9,0,0;p0,5,9,1,0;p0,5,9,2,0;p0,5,9,3,0;o1;");
        for (int what : new int[] {-1, 2, Integer.MIN_VALUE, Integer.MAX_VALUE}) {
            due.is("place(0, " + what + ")", x.place(0, what), BAD);
            due.is("place(1, " + what + ")", x.place(1, what), BAD);
        }
        for (int i : NO_PERSONS) {
            due.is("place(" + i + ", 0)", x.place(i, 0), BAD);
        }
        due.is("place(1, 0)", x.place(1, 0), NO);
        due.is("place(1, 1)", x.place(1, 1), NO);
    }

    private void burnOf(String town, int i, int set) {
        due.is("burn(" + i + ") of " + town, Due.laid(town).burn(i), set);
    }

    private void burn() {
        String three = "p0,0,9,1,0;p0,0,9,1,0;p0,0,9,2,0;o0;o1;o2;";
        burnOf(three + "p0,3,9,0,0;", 3, 0);
        // one household has to be out: that of one PERSON, not that of the two lower ones
        burnOf(three + "p0,2,9,0,0;", 3, 4);
        burnOf(three + "p0,1,9,0,0;", 3, 7);
        burnOf(three + "p0,0,9,0,0;", 3, NONE);
        burnOf(three + "p2,1,9,0,0;", 3, 7);
        burnOf(three + "p1,1,9,0,0;", 3, 7);
        burnOf(three + "p1,0,9,0,0;", 3, NONE);
        burnOf(three + "p3,3,9,0,0;", 3, 0);
        burnOf(three + "p3,2,9,0,0;", 3, NONE);
        burnOf(three + "p2,1,9,1,0;", 3, 4);
        burnOf(three + "p2,1,9,2,0;", 3, 3);
        burnOf(three + "p0,2,9,0,0;s49;", 3, 7);
        // of several the lowest
        burnOf("p0,2,9,0,0;p0,0,9,1,0;p0,0,9,2,0;o1;o2;", 0, 2);
        burnOf("p0,2,9,0,0;p0,9,9,3,0;p0,0,9,1,0;p0,0,9,2,0;p0,0,9,4,0;o2;o3;o4;", 0, 12);
        burnOf("p0,0,9,0,0;p0,0,9,1,0;p0,0,9,2,0;p2,1,9,3,0;p0,0,9,4,0;p0,0,9,5,0;p0,0,9,6,0;o0;o1;o2;o4;o5;o6;", 3, 119);
        // nobody owns one
        burnOf("p0,1,9,0,0;", 0, 0);
        burnOf("p0,0,9,0,0;", 0, NONE);
        // worth the more, the more own one: nothing to burn
        burnOf("p0,0,18,0,0;p0,0,9,1,0;o1;s45;", 0, 0);
        burnOf("p0,0,18,0,0;p0,0,9,1,0;o1;s42;", 0, NONE);
    }

    private void burnWrong() {
        DearAsMany x = Due.laid("p0,5,9,0,0;p0,5,9,1,0;p0,5,9,2,0;p0,0,9,3,0;o1;");
        for (int i : NO_PERSONS) {
            due.is("burn(" + i + ")", x.burn(i), BAD);
        }
        due.is("burn(1)", x.burn(1), NO);
        due.is("burn(3)", x.burn(3), NONE);
    }

    private void shareOf(String town, int pair) {
        due.is("share() of " + town, Due.laid(town).share(), pair);
    }

    private void share() {
        shareOf("p0,1,9,0,0;p0,0,9,1,0;", 1);
        shareOf("p0,0,9,0,0;p0,0,9,1,0;", NONE);
        shareOf("p0,9,9,0,0;", NONE);
        shareOf("p0,9,9,0,0;p0,9,9,1,0;o0;", NONE);
        shareOf("p0,9,9,0,0;p0,9,9,1,0;o1;", NONE);
        // of several the first; the greatest
        shareOf("p0,2,9,0,0;p0,2,9,1,0;p0,2,9,2,0;", 1);
        shareOf("p0,2,9,0,0;p0,2,9,1,0;p0,3,9,2,0;", 2);
        shareOf("p0,2,9,0,0;p0,3,9,1,0;p0,3,9,2,0;", 12);
        shareOf("p0,1,9,0,0;p0,1,9,0,0;p0,1,9,0,0;p0,1,9,0,0;p0,1,9,0,0;p0,9,9,5,0;p0,9,9,6,0;", 56);
        // who owns one is none of two
        shareOf("p0,9,9,0,0;p0,2,9,0,0;p0,3,9,0,0;o0;", 12);
        // PRICE for i: 1 of 1 and 0; not above 0 is none
        shareOf("p0,1,9,0,0;p0,0,9,1,0;p0,0,9,2,0;o2;", NONE);
        shareOf("p0,2,9,0,0;p0,0,9,1,0;p0,0,9,2,0;o2;", 1);
        // j, a FOP, with the owner in his household, counts to that of i: -1, not 9
        shareOf("p0,5,9,0,0;p2,9,9,1,0;p0,5,9,2,0;p0,0,9,1,0;o3;", 12);
        shareOf("p0,5,9,0,0;p2,9,9,1,0;p0,9,9,2,0;p0,0,9,1,0;o3;", 12);
        shareOf("p0,9,9,0,0;p2,9,9,1,0;p0,0,9,1,0;o2;", 1);
        shareOf("p0,2,9,0,0;p2,9,9,1,0;p0,0,9,1,0;o2;", NONE);
        // j, a FOP, comes to the household with the owner: 9, not -1
        shareOf("p0,0,9,1,0;p2,9,9,0,0;p0,1,9,2,0;p0,0,9,1,0;o3;", 1);
        // the season counts for both
        shareOf("p0,2,9,0,0;p0,2,9,1,0;s48;", NONE);
        shareOf("p0,2,9,0,0;p0,3,9,1,0;s48;", 1);
        shareOf("p1,9,9,0,0;p3,9,9,1,0;p0,0,9,2,0;o2;", NONE);
        shareOf("p3,2,9,0,0;p3,9,9,1,0;p0,0,9,2,0;p0,0,9,3,0;o2;o3;", 1);
    }

    private void nothingChanges() {
        DearAsMany x = Due.laid("p0,5,18,0,7;p1,5,9,1,7;p0,9,9,2,7;o2;");
        x.place(0, 0);
        x.burn(1);
        x.share();
        int[] stay = {3, 4, 50, 0, 0, 0, 37};
        for (int what = 0; what < stay.length; what++) {
            due.is("count(" + what + ") behind counsel", x.count(what), stay[what]);
        }
        due.is("person(0, 4) behind counsel", x.person(0, 4), 1007);
    }
}
