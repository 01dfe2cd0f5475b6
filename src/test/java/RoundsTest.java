/** Promises 14 to 17: behind, rest, rests, tip. */
public final class RoundsTest {
    private static final int NONE = DearAsMany.NONE;
    private static final int[] NO_WHATS = {-1, 2, Integer.MIN_VALUE, Integer.MAX_VALUE};
    /** Two FOPS that both want to be the only one. */
    private static final String SNOBS = "p2,5,9,0,9;p2,5,9,1,9;";
    /** A FOP, worth 10 to him alone, and one to whom it is worth -5 alone and 4 with the FOP: he runs behind. */
    private static final String CHASE = "p2,20,9,0,9;p0,5,18,1,9;s40;";
    /** Worth -5 alone, 4 with another, 13 with two. */
    private static final String HERD = "p0,0,18,0,0;p0,0,18,1,0;p0,0,18,2,0;s45;";
    /** Each buys when as many others own one as there are lower ones. */
    private static final String UP = "p0,51,18,0,0;p0,43,18,1,0;p0,35,18,2,0;p0,27,18,3,0;p0,19,18,4,0;p0,11,18,5,0;p0,3,18,6,0;s0;";
    private static final String DOWN = "p0,3,18,6,0;p0,11,18,5,0;p0,19,18,4,0;p0,27,18,3,0;p0,35,18,2,0;p0,43,18,1,0;p0,51,18,0,0;s0;";
    private final Due due = new Due();

    public static void main(String[] args) {
        RoundsTest test = new RoundsTest();
        test.behind();
        test.behindBad();
        test.rest();
        test.restLate();
        test.rests();
        test.tip();
        test.tipFromWhereItStands();
        test.nothingChanges();
        test.due.end();
    }

    private void behindAll(String town, boolean turns, int... dues) {
        DearAsMany x = Due.laid(town);
        for (int n = 0; n < dues.length; n++) {
            due.is("behind(" + n + ", " + turns + ") of " + town, x.behind(n, turns), dues[n]);
        }
    }

    private void behind() {
        behindAll(SNOBS, false, 0, 3, 0, 3, 0);
        behindAll(SNOBS, true, 0, 1, 1, 1);
        behindAll(SNOBS + "o1;", false, 2, 2);
        behindAll(SNOBS + "o0;o1;", true, 3, 2, 2);
        behindAll(CHASE, false, 0, 1, 3, 2, 0, 1, 3, 2, 0);
        behindAll(CHASE, true, 0, 3, 0, 3, 0);
        behindAll(CHASE + "o0;", true, 1, 3, 0, 3);
        behindAll(CHASE + "o1;", true, 2, 0, 3, 0);
        behindAll(UP, false, 0, 1, 3, 7, 15, 31, 63, 127, 127);
        behindAll(UP, true, 0, 127, 127);
        behindAll(DOWN, false, 0, 64, 96, 112, 120, 124, 126, 127, 127);
        behindAll(DOWN, true, 0, 64, 96, 112, 120, 124, 126, 127, 127);
        behindAll("p0,1,9,3,0;p0,1,9,3,0;p0,1,9,4,0;", true, 0, 3, 3);
        behindAll("p0,1,9,3,0;p0,1,9,3,0;p0,1,9,4,0;", false, 0, 7, 7);
        behindAll("p0,0,9,3,0;p0,0,9,4,0;s49;o0;", true, 1, 0, 0);
        DearAsMany x = Due.laid(CHASE);
        due.is("behind(59, false)", x.behind(59, false), 2);
        due.is("behind(60, false)", x.behind(60, false), 0);
        due.is("behind(59, true)", x.behind(59, true), 3);
        due.is("behind(60, true)", x.behind(60, true), 0);
    }

    private void behindBad() {
        DearAsMany x = Due.laid(CHASE);
        for (int n : new int[] {-1, 61, Integer.MIN_VALUE, Integer.MAX_VALUE}) {
            due.is("behind(" + n + ", false)", x.behind(n, false), DearAsMany.BAD);
            due.is("behind(" + n + ", true)", x.behind(n, true), DearAsMany.BAD);
        }
    }

    private void restOf(String town, boolean turns, int behind, int swing) {
        DearAsMany x = Due.laid(town);
        due.is("rest(" + turns + ", 0) of " + town, x.rest(turns, 0), behind);
        due.is("rest(" + turns + ", 1) of " + town, x.rest(turns, 1), swing);
    }

    private void rest() {
        restOf(SNOBS, false, NONE, 2);
        restOf(SNOBS, true, 1, 1);
        restOf(SNOBS + "o0;", false, 0, 1);
        restOf(SNOBS + "o0;", true, 0, 1);
        restOf(CHASE, false, NONE, 4);
        restOf(CHASE, true, NONE, 2);
        restOf(CHASE + "o0;", true, NONE, 2);
        restOf("p0,0,9,0,0;", false, 0, 1);
        restOf("p0,0,9,0,0;", true, 0, 1);
        restOf("p2,1,12,2,9;p0,14,17,2,1;p2,31,10,0,3;p3,19,0,4,5;p0,3,17,3,4;o2;o3;o4;s35;", false, NONE, 5);
        DearAsMany x = Due.laid(CHASE);
        for (int what : NO_WHATS) {
            due.is("rest(false, " + what + ")", x.rest(false, what), DearAsMany.BAD);
            due.is("rest(true, " + what + ")", x.rest(true, what), DearAsMany.BAD);
        }
    }

    private void restLate() {
        restOf(UP, false, 7, 1);
        restOf(UP, true, 1, 1);
        restOf(DOWN, false, 7, 1);
        restOf(DOWN, true, 7, 1);
        restOf(DOWN + "o6;", true, 6, 1);
        restOf(DOWN + "o0;o1;o2;o3;o4;o5;o6;", true, 0, 1);
    }

    private void restsOf(String town, int... dues) {
        DearAsMany x = Due.laid(town);
        due.is("rests(-1) of " + town, x.rests(-1), dues.length);
        for (int i = 0; i < dues.length; i++) {
            due.is("rests(" + i + ") of " + town, x.rests(i), dues[i]);
        }
        for (int i : new int[] {dues.length, dues.length + 1, 127, 128, 1000, Integer.MAX_VALUE}) {
            due.is("rests(" + i + ") of " + town, x.rests(i), i < dues.length ? dues[i] : NONE);
        }
        for (int i : new int[] {-2, -3, Integer.MIN_VALUE}) {
            due.is("rests(" + i + ") of " + town, x.rests(i), DearAsMany.BAD);
        }
    }

    private void rests() {
        restsOf(SNOBS, 1, 2);
        restsOf(SNOBS + "o0;o1;", 1, 2);
        restsOf(CHASE);
        restsOf(HERD, 0, 7);
        restsOf(UP, 127);
        restsOf("p0,0,9,0,0;p0,0,9,1,0;", 0, 1, 2, 3);
        restsOf("p0,0,9,0,0;s49;", 0);
        restsOf("p0,0,9,0,0;s51;", 1);
        int[] all = new int[128];
        for (int k = 0; k < 128; k++) {
            all[k] = k;
        }
        restsOf("p0,0,9,0,0;p0,0,9,1,0;p0,0,9,2,0;p0,0,9,3,0;p0,0,9,4,0;p0,0,9,5,0;p0,0,9,6,0;", all);
    }

    private void tipOf(String town, int set, boolean turns, int many, int which) {
        DearAsMany x = Due.laid(town);
        due.is("tip(" + set + ", " + turns + ", 0) of " + town, x.tip(set, turns, 0), many);
        due.is("tip(" + set + ", " + turns + ", 1) of " + town, x.tip(set, turns, 1), which);
    }

    private void tip() {
        tipOf(HERD, 0, false, 0, 0);
        tipOf(HERD, 0, true, 0, 0);
        tipOf(HERD, 7, false, 1, 1);
        tipOf(HERD, 7, true, 1, 2);
        tipOf(HERD + "o0;o1;o2;", 7, false, 0, 0);
        tipOf(HERD + "o0;o1;o2;", 0, false, 3, 7);
        tipOf(HERD + "o0;o1;o2;", 0, true, 2, 6);
        for (int set = 1; set < 7; set++) {
            tipOf(HERD, set, false, NONE, NONE);
            tipOf(HERD, set, true, NONE, NONE);
        }
        for (int set = 0; set < 4; set++) {
            tipOf(CHASE, set, false, NONE, NONE);
            tipOf(CHASE, set, true, NONE, NONE);
        }
        tipOf(UP, 127, false, 0, 0);
        tipOf(DOWN, 127, true, 0, 0);
        DearAsMany x = Due.laid(HERD);
        for (int set : new int[] {-1, 8, Integer.MIN_VALUE, Integer.MAX_VALUE}) {
            due.is("tip(" + set + ", true, 0)", x.tip(set, true, 0), DearAsMany.BAD);
        }
        for (int what : NO_WHATS) {
            due.is("tip(7, true, " + what + ")", x.tip(7, true, what), DearAsMany.BAD);
            due.is("tip(1, false, " + what + ")", x.tip(1, false, what), DearAsMany.BAD);
        }
    }

    private void tipFromWhereItStands() {
        tipOf(SNOBS, 1, false, 1, 1);
        tipOf(SNOBS, 2, false, 1, 2);
        tipOf(SNOBS, 3, false, NONE, NONE);
        tipOf(SNOBS, 0, false, NONE, NONE);
        tipOf(SNOBS, 1, true, 0, 0);
        tipOf(SNOBS, 2, true, 1, 2);
        tipOf(SNOBS + "o0;", 1, false, 0, 0);
        tipOf(SNOBS + "o0;", 2, false, 2, 3);
        tipOf(SNOBS + "o0;", 2, true, 1, 2);
        String calm = "p0,0,9,0,0;p0,0,9,1,0;p0,0,9,2,0;p0,0,9,3,0;p0,0,9,4,0;p0,0,9,5,0;p0,0,9,6,0;";
        tipOf(calm, 63, false, 6, 63);
        tipOf(calm, 127, false, 7, 127);
        tipOf(calm + "o0;o2;", 127, true, 5, 122);
        // 3 would do it, too, and is lower, but 4 is of fewer
        tipOf("p0,4,9,0,0;p1,7,9,1,0;p0,0,18,2,0;o2;s48;", 7, false, 1, 4);
    }

    private void nothingChanges() {
        DearAsMany x = Due.laid(CHASE + "o0;");
        x.keep();
        x.behind(7, false);
        x.rest(true, 1);
        x.rests(-1);
        x.tip(3, false, 0);
        int[] stay = {2, 1, 40, 0, 0, 1, 31};
        for (int what = 0; what < stay.length; what++) {
            due.is("count(" + what + ") behind rounds", x.count(what), stay[what]);
        }
        due.is("person(0, 4) behind rounds", x.person(0, 4), 1009);
    }
}
