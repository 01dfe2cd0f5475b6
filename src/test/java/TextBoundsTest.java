/** Each sentence about a text, its PERSONS and WORTH that names a bound: the last that is told, the first that is none. */
public final class TextBoundsTest {
    private static final int BAD = DearAsMany.BAD, NO = DearAsMany.NO, FULL = DearAsMany.FULL, NONE = DearAsMany.NONE;
    private static final int[] FAR = {32, 64, 128, 255, 256, 257, 65536, 1 << 30, Integer.MAX_VALUE, Integer.MIN_VALUE,
        Integer.MIN_VALUE + 1, -8, -32, -256};
    private static final String P = "p0,9,9,0,9;";
    private static final int[] HIGHEST = {3, 99, 18, 7, 99};
    private final Due due = new Due();

    public static void main(String[] args) {
        TextBoundsTest test = new TextBoundsTest();
        test.threeHundredBytes();
        test.textOfThreeHundred();
        test.oneToEightBytes();
        test.highestByteFirst();
        test.wipedAsOften();
        test.numbersOfOneOrTwoFigures();
        test.highestNumbers();
        test.sevenPersons();
        test.ownersToldAhead();
        test.seasons();
        test.firstFault();
        test.cutItems();
        test.everyByteAlone();
        test.onePersonAtLeast();
        test.textStays();
        test.personsThereAre();
        test.setsThereAre();
        test.othersFromNoneToSix();
        test.kindsByOthers();
        test.due.end();
    }

    private static String persons(int many) {
        StringBuilder t = new StringBuilder();
        for (int i = 0; i < many; i++) {
            t.append("p0,9,9,").append(i).append(",9;");
        }
        return t.toString();
    }

    /** "A TEXT is bytes (300 at most)"; FULL. */
    private void threeHundredBytes() {
        for (int n = 1; n <= 8; n++) {
            for (int length = 290; length <= 300; length++) {
                DearAsMany x = new DearAsMany();
                Due.write(x, ";".repeat(length));
                String call = "write(" + n + ", 0) behind " + length;
                boolean fits = length + n <= 300;
                due.is(call, x.write(n, 0), fits ? length + n : FULL);
                due.is("count(6) behind " + call, x.count(6), fits ? length + n : length);
            }
        }
    }

    /** The last byte there can be is read; so is a FAULT at it. */
    private void textOfThreeHundred() {
        String long299 = P + "s9;".repeat(96);
        faultOf(long299, NONE);
        faultOf(long299 + "s", 299);
        faultOf(long299 + ";", 299);
        String long300 = P + "s9;".repeat(95) + "s08;";
        DearAsMany x = Due.laid(long300);
        due.is("bytes", x.count(6), 300);
        due.is("the SEASON at the end of 300 bytes", x.count(2), 8);
        faultOf(long300.substring(0, 299) + ",", 296);
        faultOf("s9;".repeat(96) + P.substring(0, 10) + "x;", 288);
        DearAsMany y = Due.laid("s9;".repeat(96) + "p0,9,9,0,09;");
        due.is("a PERSON at the end of 300 bytes", y.person(0, 4), 1009);
        DearAsMany z = new DearAsMany();
        due.is("300 separators", Due.write(z, ";".repeat(300)), 300);
        due.is("fault() of 300 separators", z.fault(), 0);
    }

    /** "The lowest n bytes (1 to 8) of v"; BAD. */
    private void oneToEightBytes() {
        for (int n = -2; n <= 11; n++) {
            DearAsMany x = new DearAsMany();
            boolean told = n >= 1 && n <= 8;
            due.is("write(" + n + ", -1)", x.write(n, -1), told ? n : BAD);
            due.is("count(6) behind write(" + n + ", -1)", x.count(6), told ? n : 0);
            due.is("fault() behind write(" + n + ", -1)", x.fault(), told ? 0 : NONE);
        }
        for (int n : FAR) {
            DearAsMany x = new DearAsMany();
            due.is("write(" + n + ", 0)", x.write(n, 0), BAD);
            due.is("count(6) behind write(" + n + ", 0)", x.count(6), 0);
        }
    }

    /** "the highest of these first"; whatever stands above them in v. */
    private void highestByteFirst() {
        String text = "p3,98,17,6,95;o0;s12;p1,2,3,4,5;";
        for (int n = 1; n <= 8; n++) {
            for (long above : new long[] {0, -1, Long.MIN_VALUE, Long.MAX_VALUE}) {
                DearAsMany x = new DearAsMany();
                for (int k = 0; k < text.length(); k += n) {
                    int many = Math.min(n, text.length() - k);
                    x.write(many, bytes(above, text, k, many));
                }
                due.is("lay() of pieces of " + n + " below " + above, x.lay(), 2);
                int[] first = {3, 98, 17, 6, 1095, 1};
                for (int what = 0; what < 6; what++) {
                    due.is("person(0, " + what + ") of pieces of " + n, x.person(0, what), first[what]);
                }
                due.is("count(2) of pieces of " + n, x.count(2), 12);
            }
        }
    }

    private static long bytes(long above, String text, int from, int many) {
        long v = above;
        for (int b = 0; b < many; b++) {
            v = v << 8 | text.charAt(from + b);
        }
        return v;
    }

    /** "THE TEXT is empty: how long it was": of none, of one, of all; and all its room is there again. */
    private void wipedAsOften() {
        DearAsMany x = new DearAsMany();
        for (int length : new int[] {0, 1, 299, 300, 0}) {
            Due.write(x, "s".repeat(length));
            due.is("wipe() of " + length, x.wipe(), length);
            due.is("count(6) behind wipe() of " + length, x.count(6), 0);
            due.is("fault() behind wipe() of " + length, x.fault(), NONE);
            due.is("wipe() once more", x.wipe(), 0);
        }
        due.is("300 bytes behind wipe()", Due.write(x, "s1;".repeat(100)), 300);
        due.is("fault() of these", x.fault(), NONE);
    }

    private void faultOf(String text, int want) {
        DearAsMany x = new DearAsMany();
        due.is("write of " + text, Due.write(x, text), text.length());
        due.is("fault() of " + text, x.fault(), want);
        if (want != NONE) {
            due.is("lay() of " + text, x.lay(), NO);
            due.is("count(0) behind lay() of " + text, x.count(0), 3);
        }
    }

    private static String person(int place, String number) {
        String[] numbers = {"1", "1", "1", "1", "1"};
        numbers[place] = number;
        return "p" + String.join(",", numbers) + ";";
    }

    /** "numbers (one or two figures)". */
    private void numbersOfOneOrTwoFigures() {
        String[] right = {"0", "1", "00", "01", "3", "03"};
        String[] wrong = {"", "000", "001", "-1", "+1", " 1", "1 ", "1.", "a", "1a", "0x", ",", "1,1", ";", "/", ":", "1/", "1:"};
        for (int place = 0; place < 5; place++) {
            for (String number : right) {
                faultOf(P + person(place, number), NONE);
            }
            for (String number : wrong) {
                faultOf(P + person(place, number), P.length());
            }
        }
        for (String number : new String[] {"0", "00"}) {
            faultOf(P + "o" + number + ";", NONE);
            faultOf(P + "s" + number + ";", NONE);
        }
        for (String number : wrong) {
            faultOf(P + "o" + number + ";", P.length());
            faultOf(P + "s" + number + ";", P.length());
        }
    }

    /** "KIND K (0 .. 3) .. W (0 to 99) .. C (0 to 18) .. H (0 to 7) .. M pennies (0 to 99)": each number there can be. */
    private void highestNumbers() {
        for (int place = 0; place < 5; place++) {
            for (int number = 0; number <= 99; number++) {
                String text = P + person(place, "" + number);
                boolean told = number <= HIGHEST[place];
                faultOf(text, told ? NONE : P.length());
                if (told) {
                    int lifted = place == 4 ? 1000 + number : number;
                    due.is("person(1, " + place + ") of " + text, Due.laid(text).person(1, place), lifted);
                    faultOf(P + person(place, "0" + number), number < 10 ? NONE : P.length());
                }
            }
            faultOf(P + person(place, "100"), P.length());
        }
    }

    /** "7 at most, 0, 1, ..". */
    private void sevenPersons() {
        for (int many = 1; many <= 7; many++) {
            DearAsMany x = Due.laid(persons(many));
            due.is("count(0) of " + many, x.count(0), many);
            for (int i = 0; i < many; i++) {
                due.is("person(" + i + ", 3) of " + many, x.person(i, 3), i);
            }
        }
        String seven = persons(7);
        faultOf(seven + P, seven.length());
        faultOf(seven + "s1;o6;" + P + P, seven.length() + 6);
        faultOf(seven + "s1;o6;", NONE);
    }

    /** "oI PERSON I (told ahead) owns one at first". */
    private void ownersToldAhead() {
        for (int many = 0; many <= 7; many++) {
            String ahead = persons(many);
            for (int i = 0; i < many; i++) {
                DearAsMany x = Due.laid(ahead + "o" + i + ";");
                due.is("count(1) of one owner of " + many, x.count(1), 1 << i);
                due.is("person(" + i + ", 5) of " + many, x.person(i, 5), 1);
            }
            for (int i : new int[] {many, many + 1, 9, 10, 32, 64, 99}) {
                faultOf(ahead + "o" + i + ";", ahead.length());
            }
            if (many < 7) {
                faultOf(ahead + "o" + many + ";" + P, ahead.length());
                faultOf(ahead + P + "o" + many + ";", NONE);
            }
        }
        DearAsMany all = Due.laid(persons(7) + "o6;o5;o4;o3;o2;o1;o0;");
        due.is("count(1), all own one", all.count(1), 127);
        due.is("count(1), nobody owns one", Due.laid(persons(7)).count(1), 0);
        DearAsMany twice = Due.laid(P + P + "o1;o1;");
        due.is("count(1), the same one twice", twice.count(1), 2);
    }

    /** "S less 50 more to everybody (0 to 99; 50 without; of several such the last one counts)". */
    private void seasons() {
        for (int s = 0; s <= 99; s++) {
            DearAsMany x = Due.laid("p0,7,9,0,9;s" + s + ";");
            due.is("count(2) of s" + s, x.count(2), s);
            due.is("worth(0, 0) of s" + s, x.worth(0, 0), 1000 + 7 + s - 50);
        }
        due.is("count(2) without", Due.laid(P).count(2), 50);
        due.is("count(2) of s0;s99;", Due.laid("s0;" + P + "s99;").count(2), 99);
        due.is("count(2) of s99;s0;", Due.laid("s99;" + P + "s0;").count(2), 0);
        due.is("count(2) of s1;s50;", Due.laid(P + "s1;s50;").count(2), 50);
        due.is("count(2) of the last of three", Due.laid("s1;s2;s3;" + P).count(2), 3);
        DearAsMany x = Due.laid(P + "s99;");
        x.wipe();
        Due.write(x, P);
        x.lay();
        due.is("count(2) without, behind one with", x.count(2), 50);
        faultOf("s100;" + P, 0);
        faultOf("s0,0;" + P, 0);
    }

    /** "the first byte of the first ITEM that is not so". */
    private void firstFault() {
        String[] wrong = {"p4,0,0,0,0;", "o9;", "s100;", "x;", ";", "\u0000", "\u00ff"};
        for (String a : wrong) {
            for (String b : wrong) {
                faultOf(a + b, 0);
                faultOf(P + a + b, P.length());
                faultOf(P + "s1;" + a + P + b, P.length() + 3);
            }
            faultOf(persons(7) + a, persons(7).length());
        }
    }

    /** An ITEM of which a byte at least is not there: from its first byte on. */
    private void cutItems() {
        for (String item : new String[] {P, "p3,99,18,7,99;", "o0;", "o00;", "s0;", "s99;"}) {
            for (int length = 0; length < item.length(); length++) {
                faultOf(P + item.substring(0, length), length == 0 ? NONE : P.length());
                faultOf(P + item.substring(0, length) + "\u0000", P.length());
            }
            faultOf(P + item, NONE);
            faultOf(P + item + P, NONE);
        }
    }

    /** Each byte of 0 to 255 as the letter of an ITEM, as a figure and as what parts. */
    private void everyByteAlone() {
        for (int b = 0; b <= 255; b++) {
            String sign = "" + (char) b;
            boolean figure = b >= '0' && b <= '9';
            faultOf(P + sign + "0;", b == 'o' || b == 's' ? NONE : P.length());
            faultOf(P + "s" + sign + ";", figure ? NONE : P.length());
            faultOf(P + "s5" + sign + ";", figure ? NONE : b == ';' ? P.length() + 3 : P.length());
            faultOf(P + "s50" + sign, b == ';' ? NONE : P.length());
            faultOf(P + "p0" + sign + "9,9,0,9;", b == ',' ? NONE : P.length());
            faultOf(P + sign + "0,9,9,0,9;", b == 'p' ? NONE : P.length());
        }
    }

    /** "LAID is a TEXT without FAULT, of a PERSON at least (NO else ..)". */
    private void onePersonAtLeast() {
        for (String text : new String[] {"", "s50;", "s1;s2;s3;"}) {
            DearAsMany x = new DearAsMany();
            Due.write(x, text);
            due.is("fault() of '" + text + "'", x.fault(), NONE);
            due.is("lay() of '" + text + "'", x.lay(), NO);
            due.is("count(2) behind lay() of '" + text + "'", x.count(2), 50);
            due.is("count(0) behind lay() of '" + text + "'", x.count(0), 3);
        }
        due.is("count(0) of one", Due.laid("s1;" + P).count(0), 1);
    }

    /** "THE TEXT stays". */
    private void textStays() {
        DearAsMany x = Due.laid(P);
        due.is("count(6) behind lay()", x.count(6), 11);
        due.is("write of one more PERSON", Due.write(x, "p0,8,9,1,7;o1;"), 25);
        due.is("count(0), not laid yet", x.count(0), 1);
        due.is("lay() of both", x.lay(), 2);
        due.is("person(1, 1)", x.person(1, 1), 8);
        due.is("count(1)", x.count(1), 2);
        Due.write(x, "p");
        due.is("lay() of a FAULT", x.lay(), NO);
        due.is("count(6) behind NO", x.count(6), 26);
        due.is("wipe() behind NO", x.wipe(), 26);
    }

    /** BAD: "PERSONS .. there are", in towns of 1 to 7, and what of them. */
    private void personsThereAre() {
        for (int many = 1; many <= 7; many++) {
            DearAsMany x = Due.laid(persons(many));
            for (int i = -2; i <= 9; i++) {
                boolean there = i >= 0 && i < many;
                due.is("person(" + i + ", 3) of " + many, x.person(i, 3), there ? i : BAD);
                due.is("worth(" + i + ", 0) of " + many, x.worth(i, 0), there ? 1009 : BAD);
            }
            for (int i : FAR) {
                due.is("person(" + i + ", 3) of " + many, x.person(i, 3), BAD);
                due.is("worth(" + i + ", 0) of " + many, x.worth(i, 0), BAD);
            }
        }
        DearAsMany x = Due.laid("p1,2,3,4,5;o0;");
        int[] all = {BAD, 1, 2, 3, 4, 1005, 1, BAD, BAD};
        for (int what = -1; what <= 7; what++) {
            due.is("person(0, " + what + ")", x.person(0, what), all[what + 1]);
        }
        for (int what : FAR) {
            due.is("person(0, " + what + ")", x.person(0, what), BAD);
        }
    }

    /** BAD: "sets of PERSONS there are: a set may be 0". */
    private void setsThereAre() {
        for (int many = 1; many <= 7; many++) {
            DearAsMany x = Due.laid(persons(many));
            for (int set = -2; set <= 130; set++) {
                boolean there = set >= 0 && set < 1 << many;
                due.is("worth(0, " + set + ") of " + many, x.worth(0, set), there ? 1009 : BAD);
            }
            for (int set : FAR) {
                boolean there = set >= 0 && set < 1 << many;
                due.is("worth(0, " + set + ") of " + many, x.worth(0, set), there ? 1009 : BAD);
            }
        }
    }

    /** "how many HOUSEHOLDS but his own have one of it": of none and of all, by himself, by one of his own. */
    private void othersFromNoneToSix() {
        for (int c = 0; c <= 18; c++) {
            StringBuilder town = new StringBuilder();
            for (int home = 0; home <= 6; home++) {
                town.append("p0,0,").append(c).append(',').append(7 - home).append(",0;");
            }
            DearAsMany x = Due.laid(town.toString());
            for (int set = 0; set < 128; set++) {
                for (int i = 0; i < 7; i++) {
                    int others = Integer.bitCount(set & ~(1 << i));
                    due.is("worth(" + i + ", " + set + ") with C " + c, x.worth(i, set), 1000 + others * (c - 9));
                }
            }
        }
        DearAsMany one = Due.laid("p0,0,18,7,0;".repeat(7));
        for (int set = 0; set < 128; set++) {
            due.is("worth(3, " + set + ") of one HOUSEHOLD", one.worth(3, set), 1000);
        }
        DearAsMany two = Due.laid("p0,0,10,0,0;p0,0,10,7,0;p0,0,10,7,0;p0,0,10,7,0;");
        int[] sets = {0, 1, 2, 4, 8, 6, 14, 15};
        int[] others = {0, 0, 1, 1, 1, 1, 1, 1};
        for (int k = 0; k < sets.length; k++) {
            due.is("worth(0, " + sets[k] + ") of two HOUSEHOLDS", two.worth(0, sets[k]), 1000 + others[k]);
        }
    }

    /** "if there are OTHERS, it is 0 to a FIRST one and -1 to a FOP, whatever else; .. fewer than 2, it is 0 to a FOLLOWER". */
    private void kindsByOthers() {
        String others = "p0,0,9,1,0;p0,0,9,2,0;p0,0,9,3,0;p0,0,9,0,0;";
        int[] sets = {0, 1, 16, 17, 2, 3, 18, 6, 7, 14, 31};
        int[] many = {0, 0, 0, 0, 1, 1, 1, 2, 2, 3, 3};
        for (int s : new int[] {0, 49, 50, 51, 99}) {
            for (int w : new int[] {0, 1, 99}) {
                for (int kind = 0; kind <= 3; kind++) {
                    String text = "p" + kind + "," + w + ",11,0,0;" + others + "s" + s + ";";
                    DearAsMany x = Due.laid(text);
                    for (int k = 0; k < sets.length; k++) {
                        int full = w + s - 50 + 2 * many[k];
                        boolean off = kind == 3 ? many[k] < 2 : kind != 0 && many[k] > 0;
                        int want = off ? kind == 2 ? -1 : 0 : full;
                        due.is("worth(0, " + sets[k] + ") of " + text, x.worth(0, sets[k]), 1000 + want);
                    }
                }
            }
        }
    }
}
