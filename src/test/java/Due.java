/** Counts and prints the answers that are not as due; what the tests share. */
final class Due {
    private int asked = 0;
    private int wrong = 0;

    void is(String call, long got, long want) {
        asked++;
        if (got != want) {
            wrong++;
            System.out.println(call + " answered " + got + ", due is " + want);
        }
    }

    void end() {
        System.out.println(wrong == 0 ? asked + " answers are as due" : wrong + " of " + asked + " answers are not as due");
        if (wrong != 0) {
            System.exit(1);
        }
    }

    /** Writes a text behind THE TEXT: how long that is then. */
    static int write(DearAsMany x, String text) {
        int answer = x.count(6);
        for (int k = 0; k < text.length(); k += 8) {
            int n = Math.min(8, text.length() - k);
            long v = 0;
            for (int b = 0; b < n; b++) {
                v = v << 8 | text.charAt(k + b) & 255;
            }
            answer = x.write(n, v);
        }
        return answer;
    }

    /** A new object in which a text is laid. */
    static DearAsMany laid(String text) {
        DearAsMany x = new DearAsMany();
        write(x, text);
        int persons = text.replaceAll("[^p]", "").length();
        if (x.lay() != persons) {
            throw new IllegalStateException("not laid: " + text);
        }
        return x;
    }

    /** So many PERSONS, each of a HOUSEHOLD of his own, with 9 pennies: nobody would buy, nobody is rid of it, each set rests. */
    static String calm(int persons) {
        StringBuilder t = new StringBuilder();
        for (int i = 0; i < persons; i++) {
            t.append("p0,0,9,").append(i).append(",9;");
        }
        return t.toString();
    }

    /** The ITEMS by which a set of PERSONS own one at first. */
    static String owners(int set) {
        StringBuilder t = new StringBuilder();
        for (int i = 0; i < 7; i++) {
            if ((set >> i & 1) == 1) {
                t.append('o').append(i).append(';');
            }
        }
        return t.toString();
    }
}
