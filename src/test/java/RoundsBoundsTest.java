/** Each sentence about ROUNDS, PLACE, BURN and SHARE that names a bound: the last that is told, the first that is none. */
public final class RoundsBoundsTest {
    private static final int BAD = DearAsMany.BAD, NO = DearAsMany.NO, NONE = DearAsMany.NONE;
    private static final int[] FAR = {64, 65, 256, 257, 65536, 1 << 30, Integer.MAX_VALUE, Integer.MIN_VALUE,
        Integer.MIN_VALUE + 1, -31, -32, -256};
    private static final String CALM = Due.calm(7);
    /** Two FOPS, who swing at once and rest by TURNS. */
    private static final String SNOBS = "p2,5,9,0,9;p2,5,9,1,9;";
    /** A FOP, and one who runs behind him: no set rests. */
    private static final String CHASE = "p2,20,9,0,9;p0,5,18,1,9;s40;";
    private final Due due = new Due();

    public static void main(String[] args) {
        RoundsBoundsTest test = new RoundsBoundsTest();
        test.sixtyRounds();
        test.penniesStay();
        test.restsAtOnce();
        test.restsLateAndSwingsLong();
        test.whatOfRest();
        test.allRestOrNone();
        test.tipOfEachSet();
        test.noTipWhereItNeverRests();
        test.setsOfTip();
        test.placeOfFirstAndLast();
        test.placeAmongOwners();
        test.mostAndLeastOfPlace();
        test.personsWithPlace();
        test.burntOfNoneAndAll();
        test.personsWhoBurn();
        test.eachPairShares();
        test.sharedAboveNothing();
        test.due.end();
    }

    /** "BEHIND n (0 to 60) ROUNDS"; BAD. */
    private void sixtyRounds() {
        DearAsMany x = Due.laid(SNOBS);
        for (int n = -3; n <= 63; n++) {
            boolean told = n >= 0 && n <= 60;
            due.is("behind(" + n + ", false)", x.behind(n, false), told ? n % 2 * 3 : BAD);
            due.is("behind(" + n + ", true)", x.behind(n, true), told ? n == 0 ? 0 : 1 : BAD);
        }
        for (int n : FAR) {
            due.is("behind(" + n + ", false)", x.behind(n, false), BAD);
            due.is("behind(" + n + ", true)", x.behind(n, true), BAD);
        }
        due.is("behind(0, true), all owning one", Due.laid(CALM + Due.owners(127)).behind(0, true), 127);
    }

    /** "(pennies stay)": who has none owns one all the same. */
    private void penniesStay() {
        DearAsMany x = Due.laid("p0,9,9,0,0;p0,9,9,1,0;p0,9,9,2,0;");
        due.is("behind(1, false) without a penny", x.behind(1, false), 7);
        due.is("behind(1, true) without a penny", x.behind(1, true), 7);
        due.is("year(0, 2, 0) without a penny", x.year(0, 2, 0), 3);
        for (int i = 0; i < 3; i++) {
            due.is("person(" + i + ", 4) behind these", x.person(i, 4), 1000);
            due.is("person(" + i + ", 5) behind these", x.person(i, 5), 0);
        }
    }

    private void restOf(String town, boolean turns, int behind, int swing) {
        DearAsMany x = Due.laid(town);
        due.is("rest(" + turns + ", 0) of " + town, x.rest(turns, 0), behind);
        due.is("rest(" + turns + ", 1) of " + town, x.rest(turns, 1), swing);
    }

    /** "It RESTS, if a ROUND changes no owning: behind how many ROUNDS it first does" (0 of them, too); "(1, if it RESTS)". */
    private void restsAtOnce() {
        for (boolean turns : new boolean[] {false, true}) {
            restOf(CALM, turns, 0, 1);
            restOf(CALM + Due.owners(127), turns, 0, 1);
            restOf(CALM + Due.owners(85), turns, 0, 1);
            restOf("p0,1,9,0,0;", turns, 1, 1);
            restOf("p0,1,9,0,0;o0;", turns, 0, 1);
            restOf("p0,0,9,0,0;o0;s49;", turns, 1, 1);
            restOf(CHASE, turns, NONE, turns ? 2 : 4);
        }
        restOf(SNOBS, false, NONE, 2);
        restOf(SNOBS + "o0;o1;", false, NONE, 2);
        restOf(SNOBS + "o0;o1;", true, 1, 1);
    }

    /** The latest rest and the longest swings that were found. */
    private void restsLateAndSwingsLong() {
        String late = "p0,45,2,1,0;p0,26,17,3,0;p0,19,18,2,0;p0,26,9,3,0;p0,8,13,4,0;p1,59,2,0,0;p0,47,4,0,0;o0;o3;s12;";
        String far = "p0,13,15,1,0;p0,40,3,0,0;p0,3,0,3,0;p0,21,0,0,0;p0,20,14,4,0;p0,25,13,7,0;p0,10,8,7,0;o2;o5;o6;s24;";
        String turned = "p1,35,4,7,0;p0,39,14,5,0;p1,16,10,4,0;p0,18,18,1,0;p0,19,17,2,0;p0,12,1,0,0;p1,40,16,4,0;o0;o3;o4;o5;s5;";
        restOf(late, false, 10, 1);
        restOf(far, false, NONE, 7);
        restOf(far, true, NONE, 4);
        restOf(turned, true, 5, 1);
        for (String town : new String[] {late, far, turned}) {
            for (boolean turns : new boolean[] {false, true}) {
                restAsBehind(town, turns);
            }
        }
    }

    /** What rest() tells is what behind() shows; nothing comes again ahead of that. */
    private void restAsBehind(String town, boolean turns) {
        DearAsMany x = Due.laid(town);
        int rest = x.rest(turns, 0);
        int swing = x.rest(turns, 1);
        due.is("behind 40 and a swing of " + town, x.behind(40 + swing, turns), x.behind(40, turns));
        for (int n = 1; n < swing; n++) {
            due.is("behind 40 and less of " + town, x.behind(40 + n, turns) == x.behind(40, turns) ? 1 : 0, 0);
        }
        for (int n = 0; n < 40; n++) {
            boolean still = x.behind(n, turns) == x.behind(n + 1, turns);
            due.is("it RESTS behind " + n + " of " + town, still ? 1 : 0, rest != NONE && n >= rest ? 1 : 0);
        }
    }

    /** "(what = 0; NONE) .. (1 ..) BAD". */
    private void whatOfRest() {
        for (String town : new String[] {SNOBS, CALM, CHASE}) {
            DearAsMany x = Due.laid(town);
            for (int what : new int[] {-2, -1, 2, 3}) {
                due.is("rest(false, " + what + ") of " + town, x.rest(false, what), BAD);
                due.is("rest(true, " + what + ") of " + town, x.rest(true, what), BAD);
            }
            for (int what : FAR) {
                due.is("rest(false, " + what + ") of " + town, x.rest(false, what), BAD);
                due.is("rest(true, " + what + ") of " + town, x.rest(true, what), BAD);
            }
        }
    }

    /** "RESTS: how many (i = -1), the i-th. NONE; BAD": where all sets rest, where one does, where none does. */
    private void allRestOrNone() {
        for (int many = 1; many <= 7; many++) {
            DearAsMany x = Due.laid(Due.calm(many));
            for (int i = -3; i <= 130; i++) {
                int want = i < -1 ? BAD : i == -1 ? 1 << many : i < 1 << many ? i : NONE;
                due.is("rests(" + i + ") of " + many, x.rests(i), want);
            }
            for (int i : FAR) {
                due.is("rests(" + i + ") of " + many, x.rests(i), i < 0 ? BAD : i < 1 << many ? i : NONE);
            }
            due.is("rests(-1), all buying, of " + many, Due.laid(Due.calm(many) + "s99;").rests(-1), 1);
            due.is("rests(0), all buying, of " + many, Due.laid(Due.calm(many) + "s99;").rests(0), (1 << many) - 1);
            due.is("rests(1), all buying, of " + many, Due.laid(Due.calm(many) + "s99;").rests(1), NONE);
        }
        DearAsMany x = Due.laid(CHASE);
        due.is("rests(-1) where it never rests", x.rests(-1), 0);
        due.is("rests(0) where it never rests", x.rests(0), NONE);
        due.is("rests(-2) where it never rests", x.rests(-2), BAD);
    }

    /** "that of fewest": nobody's owning is changed, one's, all seven's. */
    private void tipOfEachSet() {
        for (int owners : new int[] {0, 1, 64, 85, 127}) {
            for (int set = 0; set < 128; set++) {
                DearAsMany x = Due.laid(CALM + Due.owners(owners));
                for (boolean turns : new boolean[] {false, true}) {
                    String by = "tip(" + set + ", " + turns + ", .) by " + owners;
                    due.is(by + " what 0", x.tip(set, turns, 0), Integer.bitCount(set ^ owners));
                    due.is(by + " what 1", x.tip(set, turns, 1), set ^ owners);
                }
            }
        }
        // whoever begins, all follow; by TURNS but 0, who is rid of it ahead of the others: of several the lowest
        StringBuilder herd = new StringBuilder();
        for (int i = 0; i < 7; i++) {
            herd.append("p0,0,18,").append(i).append(",0;");
        }
        DearAsMany x = Due.laid(herd + "s45;");
        due.is("tip(127, false, 1) of a herd", x.tip(127, false, 1), 1);
        due.is("tip(127, true, 1) of a herd", x.tip(127, true, 1), 2);
        due.is("tip(0, true, 1) of a herd", x.tip(0, true, 1), 0);
        due.is("tip(0, false, 0) of a herd that owns", Due.laid(herd + Due.owners(127) + "s45;").tip(0, false, 0), 7);
    }

    /** "none": just of each set that does not rest. */
    private void noTipWhereItNeverRests() {
        for (String town : new String[] {SNOBS, CHASE, CALM + "s99;", "p2,1,9,0,0;p3,9,9,1,0;p0,2,9,2,0;p1,3,9,3,0;p0,1,9,4,0;"}) {
            DearAsMany x = Due.laid(town);
            int sets = 1 << x.count(0);
            int next = 0;
            for (int set = 0; set < sets && set < 128; set++) {
                boolean rests = x.rests(next) == set;
                next += rests ? 1 : 0;
                due.is("tip(" + set + ", false, 1) is none of " + town, x.tip(set, false, 1) == NONE ? 1 : 0, rests ? 0 : 1);
                due.is("tip(" + set + ", true, 0) is none of " + town, x.tip(set, true, 0) == NONE ? 1 : 0, rests ? 0 : 1);
            }
            due.is("rests told of " + town, x.rests(-1), next);
        }
    }

    /** tip(): BAD, of a set and of what, whether there is a TIP or not. */
    private void setsOfTip() {
        for (int many = 1; many <= 7; many++) {
            DearAsMany x = Due.laid(Due.calm(many));
            for (int set = -2; set <= 130; set++) {
                boolean told = set >= 0 && set < 1 << many;
                due.is("tip(" + set + ", true, 1) of " + many, x.tip(set, true, 1), told ? set : BAD);
            }
            for (int set : FAR) {
                boolean told = set >= 0 && set < 1 << many;
                due.is("tip(" + set + ", false, 1) of " + many, x.tip(set, false, 1), told ? set : BAD);
                due.is("tip(0, false, " + set + ") of " + many, x.tip(0, false, set), BAD);
            }
        }
        for (int what : new int[] {-2, -1, 2, 3}) {
            due.is("tip(1, true, " + what + ") of a rest", Due.laid(SNOBS).tip(1, true, what), BAD);
            due.is("tip(0, true, " + what + ") of no rest", Due.laid(SNOBS).tip(0, true, what), BAD);
            due.is("tip(4, true, " + what + ") of no set", Due.laid(SNOBS).tip(4, true, what), BAD);
        }
    }

    private void placeOf(String town, int i, int ahead, int gain) {
        DearAsMany x = Due.laid(town);
        due.is("place(" + i + ", 0) of " + town, x.place(i, 0), ahead);
        due.is("place(" + i + ", 1) of " + town, x.place(i, 1), 1000 + gain);
    }

    /** "k of them ahead of him": 0 to 6, by the one of them who buys as long as nobody owns one. */
    private void placeOfFirstAndLast() {
        for (int i = 0; i < 7; i++) {
            for (int buyer = 0; buyer < 7; buyer++) {
                if (buyer != i) {
                    StringBuilder town = new StringBuilder();
                    for (int j = 0; j < 7; j++) {
                        town.append(j == i ? "p0,0,18," : j == buyer ? "p1,5,9," : "p0,0,9,").append(j).append(",0;");
                    }
                    placeOf(town.toString(), i, buyer < i ? buyer + 1 : buyer, 8);
                }
            }
            placeOf(CALM, i, 0, 0);
        }
        placeOf("p0,7,9,0,0;", 0, 0, 7);
        placeOf("p0,7,9,0,0;o0;p0,5,9,1,0;", 1, 0, 4);
    }

    /** "all others who own none": owners do not come; the last of those who do buys only if he is ahead of 0. */
    private void placeAmongOwners() {
        for (int others = 0; others <= 6; others++) {
            for (int owning = 0; owning < 1 << others; owning++) {
                int many = Integer.bitCount(owning);
                int last = 32 - Integer.numberOfLeadingZeros(~owning & (1 << others) - 1);
                StringBuilder town = new StringBuilder("p0,0,18,7,0;");
                for (int j = 1; j <= others; j++) {
                    town.append("p0,").append(j == last ? many + 1 : 0).append(",9,").append(j - 1).append(",0;");
                }
                placeOf(town + Due.owners(owning << 1), 0, others - many, 8 * (last > 0 ? many + 1 : many));
            }
        }
    }

    /** "by how much and 1000": the least and the most there can be is no refusal. */
    private void mostAndLeastOfPlace() {
        String eager = "p0,99,9,1,0;p0,99,9,2,0;p0,99,9,3,0;p0,99,9,4,0;p0,99,9,5,0;p0,99,9,6,0;";
        placeOf("p0,0,0,0,0;" + eager + "s0;", 0, 0, -50 - 54);
        placeOf("p0,99,18,0,0;" + eager + "s99;", 0, 0, 99 + 49 + 54);
        placeOf("p2,99,18,0,0;" + eager + "s99;", 0, 0, -1);
        placeOf("p1,99,18,0,0;" + eager + "s99;", 0, 0, 0);
        placeOf("p0,0,0,0,0;" + eager + "o1;o2;o3;o4;o5;o6;s0;", 0, 0, -50 - 54 - 6);
    }

    /** place(): BAD; NO. */
    private void personsWithPlace() {
        for (int many = 1; many <= 7; many++) {
            for (int owner = 0; owner < many; owner++) {
                DearAsMany x = Due.laid(Due.calm(many) + "o" + owner + ";");
                for (int i = -1; i <= 8; i++) {
                    boolean there = i >= 0 && i < many;
                    String of = " of " + many + ", " + owner + " owning one";
                    due.is("place(" + i + ", 0)" + of, x.place(i, 0), !there ? BAD : i == owner ? NO : 0);
                    due.is("place(" + i + ", 1)" + of, x.place(i, 1), !there ? BAD : i == owner ? NO : 999);
                    due.is("place(" + i + ", -1)" + of, x.place(i, -1), BAD);
                    due.is("place(" + i + ", 2)" + of, x.place(i, 2), BAD);
                }
            }
            for (int far : FAR) {
                due.is("place(" + far + ", 0) of " + many, Due.laid(Due.calm(many)).place(far, 0), BAD);
                due.is("place(0, " + far + ") of " + many, Due.laid(Due.calm(many)).place(0, far), BAD);
            }
        }
    }

    /** "of sets of OWNERS .. that of fewest, of several the lowest; none": nobody, one, all six; of each HOUSEHOLD all. */
    private void burntOfNoneAndAll() {
        for (int owning = 0; owning < 64; owning++) {
            int set = owning << 1;
            String town = "," + "9,9,6,0;" + Due.calm(6) + Due.owners(set);
            due.is("burn(0) of a PLAIN" + town, Due.laid("p0" + town).burn(0), 0);
            due.is("burn(0) of a FIRST" + town, Due.laid("p1" + town).burn(0), set);
            due.is("burn(0) of a FOP" + town, Due.laid("p2" + town).burn(0), set);
            due.is("burn(0) of a FOLLOWER" + town, Due.laid("p3" + town).burn(0), Integer.bitCount(set) >= 2 ? 0 : NONE);
            due.is("burn(0), worth nothing" + town, Due.laid("p0" + town + "s41;").burn(0), NONE);
            due.is("burn(0), worth 1" + town, Due.laid("p0" + town + "s42;").burn(0), set);
            int lowest = set & -set;
            due.is("burn(0), worth as much" + town, Due.laid("p0" + town + "s" + (41 + Integer.bitCount(set)) + ";").burn(0),
                    set == 0 ? NONE : lowest);
        }
        String two = "p0,2,9,0,0;p0,0,9,1,0;p0,0,9,1,0;p0,0,9,1,0;p0,0,9,2,0;p0,0,9,2,0;p0,0,9,2,0;";
        due.is("burn(0) of two HOUSEHOLDS of three", Due.laid(two + Due.owners(126)).burn(0), 14);
        due.is("burn(0) of one of two, one of three", Due.laid(two + Due.owners(126 - 16)).burn(0), 96);
        due.is("burn(0), worth 1, of two HOUSEHOLDS", Due.laid(two + Due.owners(126) + "s49;").burn(0), 126);
    }

    /** burn(): BAD; NO; NONE. */
    private void personsWhoBurn() {
        for (int many = 1; many <= 7; many++) {
            for (int owner = 0; owner < many; owner++) {
                DearAsMany x = Due.laid(Due.calm(many) + "o" + owner + ";");
                for (int i = -1; i <= 8; i++) {
                    boolean there = i >= 0 && i < many;
                    due.is("burn(" + i + ") of " + many + ", " + owner + " owning one", x.burn(i),
                            !there ? BAD : i == owner ? NO : NONE);
                }
            }
            for (int far : FAR) {
                due.is("burn(" + far + ") of " + many, Due.laid(Due.calm(many)).burn(far), BAD);
            }
        }
    }

    private void shareOf(String town, int want) {
        due.is("share() of " + town, Due.laid(town).share(), want);
    }

    /** "10 i and j", of each two there can be: the two to whom it is worth something, the two who own none. */
    private void eachPairShares() {
        for (int i = 0; i < 7; i++) {
            for (int j = i + 1; j < 7; j++) {
                StringBuilder town = new StringBuilder();
                for (int k = 0; k < 7; k++) {
                    town.append(k == i || k == j ? "p0,1,9," : "p0,0,9,").append(k).append(",0;");
                }
                shareOf(town.toString(), 10 * i + j);
                shareOf(town + Due.owners(1 << i), NONE);
                shareOf("p0,9,9,7,0;".repeat(7) + Due.owners(127 ^ 1 << i ^ 1 << j), 10 * i + j);
            }
            shareOf("p0,9,9,7,0;".repeat(7) + Due.owners(127 ^ 1 << i), NONE);
        }
        shareOf("p0,9,9,7,0;".repeat(7), 1);
        shareOf("p0,9,9,7,0;".repeat(7) + Due.owners(127), NONE);
        shareOf("p0,99,18,0,0;", NONE);
    }

    /** "none (not above 0)": 0, and 1, by 0 to 5 OTHERS. */
    private void sharedAboveNothing() {
        for (int others = 0; others <= 5; others++) {
            for (int first = 1; first <= 7; first++) {
                for (int second = 1; second <= 2; second++) {
                    String two = "p0," + first + ",9,6,0;p0," + second + ",9,7,0;";
                    shareOf(two + Due.calm(5) + Due.owners((4 << others) - 4), first + second > others ? 1 : NONE);
                }
            }
        }
        shareOf("p0,1,9,0,0;p0,1,9,1,0;s49;", NONE);
        shareOf("p0,2,9,0,0;p0,1,9,1,0;s49;", 1);
        shareOf("p0,0,9,0,0;p0,99,0,1,0;p0,0,9,2,0;s0;", NONE);
        shareOf("p0,0,9,0,0;p0,99,0,1,0;p0,0,9,2,0;s1;", 1);
    }
}
