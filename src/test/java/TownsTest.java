/** Promises 1 to 7: a new object, write, wipe, fault, lay, person, worth. */
public final class TownsTest {
    /** PLAIN, FIRST, FOP, FOLLOWER, and a PLAIN one in the household of the FIRST; worth 5 more to everybody. */
    static final String TOWN = "p0,20,10,0,50;p1,30,9,1,40;p2,25,9,2,30;p3,15,12,3,20;p0,10,7,1,99;s55;";

    private final Due due = new Due();

    public static void main(String[] args) {
        TownsTest test = new TownsTest();
        test.newObject();
        test.write();
        test.wipe();
        test.fault();
        test.lay();
        test.layBeginsAnew();
        test.person();
        test.worth();
        test.due.end();
    }

    private void newObject() {
        DearAsMany x = new DearAsMany();
        int[] counts = {3, 0, 50, 0, 0, 0, 0};
        for (int what = 0; what < counts.length; what++) {
            due.is("count(" + what + ") of a new object", x.count(what), counts[what]);
        }
        int[][] people = {{0, 9, 9, 0, 1009, 0}, {0, 5, 9, 1, 1009, 0}, {2, 7, 9, 2, 1009, 0}};
        persons("of a new object", x, people);
        due.is("fault() of an empty text", x.fault(), DearAsMany.NONE);
        due.is("lay() of an empty text", x.lay(), DearAsMany.NO);
        due.is("undo() of a new object", x.undo(), DearAsMany.NO);
        due.is("back() of a new object", x.back(), DearAsMany.NO);
        due.is("wipe() of a new object", x.wipe(), 0);
        new DearAsMany().buy(7);
        due.is("count(1), an other object's owners", x.count(1), 0);
    }

    private void persons(String where, DearAsMany x, int[][] people) {
        for (int i = 0; i < people.length; i++) {
            for (int what = 0; what < people[i].length; what++) {
                due.is("person(" + i + ", " + what + ") " + where, x.person(i, what), people[i][what]);
            }
        }
    }

    private void write() {
        DearAsMany x = new DearAsMany();
        for (int n : new int[] {0, 9, -1, 16, Integer.MIN_VALUE, Integer.MAX_VALUE}) {
            due.is("write(" + n + ", ..)", x.write(n, 's'), DearAsMany.BAD);
        }
        due.is("count(6) behind BAD ones", x.count(6), 0);
        due.is("write of the lowest byte alone", x.write(1, -256L | 'p'), 1);
        due.is("write of two", x.write(2, 0x6666_302CL), 3);
        due.is("write of eight", x.write(8, 0x39_2C_31_2C_32_2C_33_3BL), 11);
        due.is("fault() of p0,9,1,2,3;", x.fault(), DearAsMany.NONE);
        due.is("lay() of p0,9,1,2,3;", x.lay(), 1);
        persons("as written", x, new int[][] {{0, 9, 1, 2, 1003, 0}});
        writeFull();
    }

    private void writeFull() {
        DearAsMany x = new DearAsMany();
        for (int k = 1; k <= 37; k++) {
            due.is("write number " + k, x.write(8, 0x733530_3B_733530_3BL), 8 * k);
        }
        for (int n = 5; n <= 8; n++) {
            due.is("write(" + n + ") behind 296", x.write(n, 0), DearAsMany.FULL);
        }
        due.is("count(6) behind FULL ones", x.count(6), 296);
        due.is("fault() behind FULL ones", x.fault(), DearAsMany.NONE);
        due.is("write(4) behind 296", x.write(4, 0x733530_3BL), 300);
        due.is("fault() of 300", x.fault(), DearAsMany.NONE);
        due.is("write(1) behind 300", x.write(1, 0), DearAsMany.FULL);
        due.is("write(0) behind 300", x.write(0, 0), DearAsMany.BAD);
        due.is("write(9) behind 300", x.write(9, 0), DearAsMany.BAD);
        due.is("wipe() of 300", x.wipe(), 300);
        due.is("write(8) behind that", x.write(8, 0), 8);
    }

    private void wipe() {
        DearAsMany x = new DearAsMany();
        Due.write(x, TOWN);
        x.lay();
        due.is("wipe()", x.wipe(), TOWN.length());
        due.is("wipe() once more", x.wipe(), 0);
        due.is("count(6) behind wipe()", x.count(6), 0);
        due.is("count(0) behind wipe()", x.count(0), 5);
        due.is("count(2) behind wipe()", x.count(2), 55);
        due.is("write behind wipe()", Due.write(x, "s5;"), 3);
        due.is("fault() behind wipe()", x.fault(), DearAsMany.NONE);
        due.is("lay() of s5;", x.lay(), DearAsMany.NO);
        x.wipe();
        Due.write(x, "p0,1,2,3,4;p0,5,6,7,8;");
        x.wipe();
        Due.write(x, "p0,1,2,3,4;p0,5,6,7,8");
        due.is("fault() of less than was there", x.fault(), 11);
        x.wipe();
        Due.write(x, "p0,1,2,3,4;s");
        due.is("fault() of still less", x.fault(), 11);
    }

    private void faultOf(String text, int want) {
        DearAsMany x = new DearAsMany();
        due.is("write of " + text, Due.write(x, text), text.length());
        due.is("fault() of " + text, x.fault(), want);
        due.is("fault() once more of " + text, x.fault(), want);
        boolean laid = want == DearAsMany.NONE && text.indexOf('p') >= 0;
        int persons = text.replaceAll("[^p]", "").length();
        due.is("lay() of " + text, x.lay(), laid ? persons : DearAsMany.NO);
        due.is("count(0) behind " + text, x.count(0), laid ? persons : 3);
    }

    private void fault() {
        String p = "p0,0,0,0,0;";
        String good = "p3,99,18,7,99;";
        String seven = p + p + p + p + p + p + p;
        for (String text : new String[] {p, good, seven, p + "o0;", p + "o00;", p + "o0;o0;", p + "s0;", p + "s99;", "s1;s2;" + p,
                "p00,01,02,03,04;", seven + "o6;o0;s7;", p + p + "o1;", p + "o0;" + p + "o1;", "s50;", "s00;s09;"}) {
            faultOf(text, DearAsMany.NONE);
        }
        for (String text : new String[] {";", ",", "0", "x1;", "P0,0,0,0,0;", "S1;", "O0;", "o0;", "o0;" + p, "s;", "s100;", "s-1;", "s+1;",
                "s1", "s1,", "s1,2;", "s 1;", "s1 ;", " s1;", "s", "p", "o", "p4,0,0,0,0;", "p9,0,0,0,0;", "p10,0,0,0,0;",
                "p0,100,0,0,0;", "p0,0,19,0,0;", "p0,0,99,0,0;", "p0,0,0,8,0;", "p0,0,0,10,0;", "p0,0,0,0,100;", "p0,0,0,0;",
                "p0,0,0,0,0,0;", "p0,0,0,0,0,", "p0,0,0,0,0", "p0,0,0,,0;", "p,0,0,0,0;", "p0,0,0,0,;", "p0;0,0,0,0;",
                "p0,0,0,0;0;", "p000,0,0,0,0;", "p0,0,0,0,000;", "p0,0,0,0,0:", "p0 ,0,0,0,0;", "p0,0/,0,0,0;", "p0,0,:,0,0;",
                "\0", "\u00ff", "s1\0", "s\u00b2;", "\u00f31;", "s\u00b1;"}) {
            faultOf(text, 0);
            faultOf(good + text.replace("o0;", "o1;").replace("o1;" + p, "o1;"), good.length());
        }
        faultOf(seven + p, seven.length());
        faultOf(seven + "s1;" + p + "s1;", seven.length() + 3);
        faultOf(p + "o1;" + p, p.length());
        faultOf(seven + "o7;", seven.length());
        faultOf(p + "o10;", p.length());
        faultOf(p + ";" + p, p.length());
        faultOf(p + "s1;s100;s2;x", p.length() + 3);
        faultOf("x" + p, 0);
        faultOf(p + "s1;p0,0,0,0,0", p.length() + 3);
    }

    private void lay() {
        DearAsMany x = Due.laid("p1,2,3,4,5;s10;p3,99,18,7,98;o1;s20;o1;p0,0,0,0,0;");
        due.is("count(0)", x.count(0), 3);
        due.is("count(1)", x.count(1), 2);
        due.is("count(2), the last season", x.count(2), 20);
        persons("as laid", x, new int[][] {{1, 2, 3, 4, 1005, 0}, {3, 99, 18, 7, 1098, 1}, {0, 0, 0, 0, 1000, 0}});
        due.is("count(6), the text stays", x.count(6), 50);
        due.is("buy(5)", x.buy(5), DearAsMany.NO);
        due.is("buy(1)", x.buy(1), 1);
        due.is("lay() of the text that stays", x.lay(), 3);
        due.is("count(1), as told again", x.count(1), 2);
        due.is("person(0, 4), as told again", x.person(0, 4), 1005);
        x.wipe();
        Due.write(x, "p0,1,9,0,2;");
        due.is("lay() of fewer", x.lay(), 1);
        due.is("count(0) of fewer", x.count(0), 1);
        due.is("count(1) of fewer", x.count(1), 0);
        due.is("count(2) without a season", x.count(2), 50);
        due.is("person(1, 0) of fewer", x.person(1, 0), DearAsMany.BAD);
        due.is("worth(0, 1) of fewer", x.worth(0, 1), 1001);
        due.is("worth(0, 2) of fewer", x.worth(0, 2), DearAsMany.BAD);
    }

    private void layBeginsAnew() {
        DearAsMany x = new DearAsMany();
        x.buy(1);
        x.keep();
        x.seen(0, 0, true);
        Due.write(x, "p0,1,9,0,2;p4,");
        due.is("lay() of a fault", x.lay(), DearAsMany.NO);
        int[] stay = {3, 1, 50, 1, 1, 1, 14};
        for (int what = 0; what < stay.length; what++) {
            due.is("count(" + what + ") behind lay() of a fault", x.count(what), stay[what]);
        }
        due.is("person(0, 1) behind lay() of a fault", x.person(0, 1), 9);
        due.is("worth(1, 1) behind lay() of a fault", x.worth(1, 1), 1005);
        x.fault();
        due.is("person(0, 4) behind fault()", x.person(0, 4), 1009);
        x.wipe();
        Due.write(x, "p0,1,9,0,2;");
        due.is("lay()", x.lay(), 1);
        int[] anew = {1, 0, 50, 0, 0, 0, 11};
        for (int what = 0; what < anew.length; what++) {
            due.is("count(" + what + ") behind lay()", x.count(what), anew[what]);
        }
        due.is("undo() behind lay()", x.undo(), DearAsMany.NO);
        due.is("back() behind lay()", x.back(), DearAsMany.NO);
        due.is("forget() behind lay()", x.forget(), 0);
    }

    private void person() {
        DearAsMany x = Due.laid(TOWN);
        persons("of TOWN", x, new int[][] {{0, 20, 10, 0, 1050, 0}, {1, 30, 9, 1, 1040, 0}, {2, 25, 9, 2, 1030, 0},
            {3, 15, 12, 3, 1020, 0}, {0, 10, 7, 1, 1099, 0}});
        x.buy(24);
        due.is("person(4, 4) who paid 1", x.person(4, 4), 1098);
        due.is("person(4, 5) who bought", x.person(4, 5), 1);
        due.is("person(0, 5) who did not", x.person(0, 5), 0);
        x.sell(4, 0);
        due.is("person(4, 4) who sold for 1", x.person(4, 4), 1099);
        x.buy(16);
        x.sell(4, 1);
        due.is("person(4, 4) who bought for 2 and sold for 2", x.person(4, 4), 1099);
        x.toss(3);
        x.buy(16);
        x.sell(4, 2);
        due.is("person(4, 4) who bought for 1 and sold for 2", x.person(4, 4), 1100);
        for (int i : new int[] {-1, 5, 7, Integer.MIN_VALUE, Integer.MAX_VALUE}) {
            due.is("person(" + i + ", 0)", x.person(i, 0), DearAsMany.BAD);
        }
        for (int what : new int[] {-1, 6, Integer.MIN_VALUE, Integer.MAX_VALUE}) {
            due.is("person(0, " + what + ")", x.person(0, what), DearAsMany.BAD);
        }
    }

    private void worth() {
        DearAsMany x = Due.laid(TOWN);
        int[][] dues = {{0, 0, 1025}, {0, 1, 1025}, {0, 2, 1026}, {0, 18, 1026}, {0, 6, 1027}, {0, 31, 1028},
            {1, 0, 1035}, {1, 2, 1035}, {1, 16, 1035}, {1, 1, 1000}, {1, 31, 1000},
            {2, 0, 1030}, {2, 4, 1030}, {2, 1, 999}, {2, 31, 999},
            {3, 0, 1000}, {3, 8, 1000}, {3, 1, 1000}, {3, 9, 1000}, {3, 18, 1000}, {3, 3, 1026}, {3, 7, 1029}, {3, 31, 1029},
            {4, 0, 1015}, {4, 1, 1013}, {4, 2, 1015}, {4, 13, 1009}, {4, 31, 1009}};
        for (int[] d : dues) {
            due.is("worth(" + d[0] + ", " + d[1] + ")", x.worth(d[0], d[1]), d[2]);
        }
        x.buy(31);
        due.is("worth(2, 0), whoever owns one", x.worth(2, 0), 1030);
        for (int set : new int[] {-1, 32, Integer.MIN_VALUE, Integer.MAX_VALUE}) {
            due.is("worth(0, " + set + ")", x.worth(0, set), DearAsMany.BAD);
        }
        for (int i : new int[] {-1, 5, Integer.MIN_VALUE, Integer.MAX_VALUE}) {
            due.is("worth(" + i + ", 0)", x.worth(i, 0), DearAsMany.BAD);
        }
        DearAsMany low = Due.laid("p0,0,0,0,0;p0,0,0,1,0;p0,0,0,2,0;p0,0,0,3,0;p0,0,0,4,0;p0,0,0,5,0;p0,0,18,6,0;s0;");
        due.is("worth of the lowest", low.worth(0, 127), 1000 - 50 - 54);
        due.is("worth by the six others", low.worth(6, 127), 1000 - 50 + 54);
        DearAsMany high = Due.laid("p2,99,18,0,0;p1,99,18,1,0;s99;");
        due.is("worth of a FOP alone", high.worth(0, 1), 1148);
        due.is("worth of a FOP with another, whatever the season", high.worth(0, 3), 999);
        due.is("worth of a FIRST with another, whatever the season", high.worth(1, 3), 1000);
    }
}
