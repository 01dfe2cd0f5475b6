import java.util.function.Supplier;
import java.util.function.ToIntFunction;

/** "nothing changes then": each refused call, its answer, and that the object is as one that was not asked; likewise each question. */
public final class RefusedTest {
    private static final int BAD = DearAsMany.BAD, NO = DearAsMany.NO, FULL = DearAsMany.FULL, NONE = DearAsMany.NONE;
    private static final int[] FAR = {32, 33, 128, 256, 257, 1 << 30, Integer.MAX_VALUE, Integer.MIN_VALUE, -1, -2, -31, -32};
    /** A FOP, a FIRST, a FOLLOWER without a penny, two PLAIN ones of a HOUSEHOLD. */
    private static final String TOWN = "p2,20,9,0,40;p1,30,9,1,40;p3,15,12,3,0;p0,10,7,1,99;p0,10,7,1,99;s45;";
    private static final int PERSONS = 5;
    private final Due due = new Due();
    private Supplier<DearAsMany> maker = DearAsMany::new;
    private String where = "";

    public static void main(String[] args) {
        RefusedTest test = new RefusedTest();
        test.inNew();
        test.inUsed();
        test.inFull();
        test.inFullOfOne();
        test.inFaulty();
        test.inIdle();
        test.inPoor();
        test.inCrowded();
        test.due.end();
    }

    private void of(String name, Supplier<DearAsMany> made) {
        where = " of a " + name + " one";
        maker = made;
        due.is("two made alike" + where, Whole.of(made.get()).equals(Whole.of(made.get())) ? 1 : 0, 1);
    }

    private void refused(String call, int want, ToIntFunction<DearAsMany> ask) {
        DearAsMany x = maker.get();
        due.is(call + where, ask.applyAsInt(x), want);
        stays(call, x);
    }

    private void asked(String call, ToIntFunction<DearAsMany> ask) {
        DearAsMany x = maker.get();
        int answer = ask.applyAsInt(x);
        due.is(call + where + " once more", ask.applyAsInt(x), answer);
        stays(call, x);
    }

    private void stays(String call, DearAsMany x) {
        String is = Whole.of(x);
        String was = Whole.of(maker.get());
        due.is("what is otherwise behind " + call + where, is.equals(was) ? 0 : 1, 0);
    }

    // ---- what objects there are

    private static DearAsMany used() {
        DearAsMany x = Due.laid(TOWN);
        x.buy(9);
        x.keep();
        x.sell(3, 1);
        x.toss(0);
        x.seen(0, 1, false);
        x.seen(4, 2, true);
        Due.write(x, "o4;");
        return x;
    }

    private static DearAsMany full() {
        DearAsMany x = Due.laid(TOWN + "o0;");
        for (int k = 0; k < 5; k++) {
            x.buy(24);
            x.toss(3);
            x.sell(4, 3);
            x.toss(3);
            x.seen(k, k, true);
            x.seen(k, k + 1, false);
        }
        x.buy(8);
        x.keep();
        x.toss(0);
        x.keep();
        Due.write(x, "s7;".repeat(80).substring(0, 300 - x.count(6)));
        return x;
    }

    private static DearAsMany faulty() {
        DearAsMany x = used();
        Due.write(x, "p4,");
        return x;
    }

    /** Nothing is UNDONE or KEPT; THE TEXT tells, up to its FAULT, of others than are laid. */
    private static DearAsMany idle() {
        DearAsMany x = Due.laid(TOWN + "o1;");
        x.seen(0, 0, true);
        x.seen(2, 3, false);
        x.wipe();
        Due.write(x, "p0,1,2,3,4;p1,5,6,7,8;s9;o0;x");
        x.fault();
        return x;
    }

    /** Two own one; who has no penny would have to pay one to either. */
    private static DearAsMany poor() {
        DearAsMany x = Due.laid(TOWN);
        x.buy(3);
        x.keep();
        x.seen(1, 0, false);
        return x;
    }

    /** All five own one. */
    private static DearAsMany crowded() {
        DearAsMany x = Due.laid(TOWN + "o0;o1;o2;o3;");
        x.buy(16);
        return x;
    }

    // ---- what is asked of them

    private void inNew() {
        of("new", DearAsMany::new);
        bad(3);
        questions(3);
        refused("lay()", NO, DearAsMany::lay);
        refused("undo()", NO, DearAsMany::undo);
        refused("back()", NO, DearAsMany::back);
        refused("toss(0)", NO, x -> x.toss(0));
        refused("sell(0, 1)", NO, x -> x.sell(0, 1));
        asked("wipe()", DearAsMany::wipe);
        asked("forget()", DearAsMany::forget);
    }

    private void inUsed() {
        of("used", RefusedTest::used);
        due.is("count(1)" + where, used().count(1), 2);
        bad(PERSONS);
        questions(PERSONS);
        for (int set = 1; set < 32; set++) {
            int asked = set;
            if ((set & 2) != 0) {
                refused("buy(" + set + "), one owning one", NO, x -> x.buy(asked));
            } else if ((set & 4) != 0) {
                refused("buy(" + set + "), one without a penny", NO, x -> x.buy(asked));
            }
        }
        for (int i = 0; i < PERSONS; i++) {
            int one = i;
            if (i != 1) {
                refused("toss(" + i + ")", NO, x -> x.toss(one));
                refused("sell(" + i + ", 1)", NO, x -> x.sell(one, 1));
                refused("sell(" + i + ", .)", NO, x -> x.sell(one, one == 0 ? 4 : 0));
            }
        }
        refused("price(1)", NO, x -> x.price(1));
        refused("place(1, 0)", NO, x -> x.place(1, 0));
        refused("place(1, 1)", NO, x -> x.place(1, 1));
        refused("burn(1)", NO, x -> x.burn(1));
        refused("burn(2)", NONE, x -> x.burn(2));
        refused("rests(99)", NONE, x -> x.rests(99));
    }

    private void inFull() {
        of("full", RefusedTest::full);
        int[] counts = {5, 8, 45, 8, 8, 2, 300};
        for (int what = 0; what < counts.length; what++) {
            due.is("count(" + what + ")" + where, full().count(what), counts[what]);
        }
        bad(PERSONS);
        questions(PERSONS);
        for (int n = 1; n <= 8; n++) {
            int many = n;
            refused("write(" + n + ", 0)", FULL, x -> x.write(many, 0));
            refused("write(" + n + ", -1)", FULL, x -> x.write(many, -1));
        }
        for (int i = 0; i < PERSONS; i++) {
            int one = i;
            refused("seen(" + i + ", 0, true)", FULL, x -> x.seen(one, 0, true));
            refused("seen(" + i + ", 7, false)", FULL, x -> x.seen(one, 7, false));
        }
        refused("keep()", FULL, DearAsMany::keep);
    }

    /** FULL of one thing, where all others have room. */
    private void inFullOfOne() {
        of("used, its text full,", () -> {
            DearAsMany x = used();
            Due.write(x, "s".repeat(300 - x.count(6)));
            x.fault();
            return x;
        });
        refused("write(1, 59)", FULL, x -> x.write(1, ';'));
        of("used, with room for four bytes,", () -> {
            DearAsMany x = used();
            Due.write(x, "s".repeat(296 - x.count(6)));
            return x;
        });
        refused("write(5, 59)", FULL, x -> x.write(5, ';'));
        of("used, all of it SEEN,", () -> {
            DearAsMany x = idle();
            for (int k = 0; k < 6; k++) {
                x.seen(1, k, true);
            }
            return x;
        });
        refused("seen(3, 0, true)", FULL, x -> x.seen(3, 0, true));
        of("idle, all of it KEPT,", () -> {
            DearAsMany x = idle();
            x.keep();
            x.toss(1);
            x.keep();
            x.buy(1);
            return x;
        });
        refused("keep()", FULL, DearAsMany::keep);
    }

    private void inFaulty() {
        of("faulty", RefusedTest::faulty);
        due.is("fault()" + where, faulty().fault(), TOWN.length() + 3);
        refused("lay()", NO, DearAsMany::lay);
        refused("lay() twice", NO, x -> Math.max(x.lay(), x.lay()));
        questions(PERSONS);
        bad(PERSONS);
    }

    private void inIdle() {
        of("idle", RefusedTest::idle);
        bad(PERSONS);
        questions(PERSONS);
        refused("lay()", NO, DearAsMany::lay);
        refused("undo()", NO, DearAsMany::undo);
        refused("back()", NO, DearAsMany::back);
        refused("buy(3)", NO, x -> x.buy(3));
        refused("toss(0)", NO, x -> x.toss(0));
        refused("sell(0, 2)", NO, x -> x.sell(0, 2));
        refused("place(1, 0)", NO, x -> x.place(1, 0));
        refused("burn(1)", NO, x -> x.burn(1));
        refused("price(1)", NO, x -> x.price(1));
    }

    private void inPoor() {
        of("poor", RefusedTest::poor);
        due.is("count(1)" + where, poor().count(1), 3);
        bad(PERSONS);
        questions(PERSONS);
        refused("sell(0, 2)", NO, x -> x.sell(0, 2));
        refused("sell(1, 2)", NO, x -> x.sell(1, 2));
        for (int set = 4; set < 32; set++) {
            int asked = set;
            if ((set & 4) != 0) {
                refused("buy(" + set + ")", NO, x -> x.buy(asked));
            }
        }
    }

    private void inCrowded() {
        of("crowded", RefusedTest::crowded);
        due.is("count(1)" + where, crowded().count(1), 31);
        bad(PERSONS);
        questions(PERSONS);
        for (int i = 0; i < PERSONS; i++) {
            int one = i;
            refused("price(" + i + ")", NO, x -> x.price(one));
            refused("place(" + i + ", 0)", NO, x -> x.place(one, 0));
            refused("burn(" + i + ")", NO, x -> x.burn(one));
            refused("buy of " + i, NO, x -> x.buy(1 << one));
            for (int j = 0; j < PERSONS; j++) {
                int other = j;
                refused("sell(" + i + ", " + j + ")", i == j ? BAD : NO, x -> x.sell(one, other));
            }
        }
        refused("share()", NONE, DearAsMany::share);
    }

    /** All that is BAD, whatever else would be refused: numbers near those that are told, and far ones. */
    private void bad(int persons) {
        for (int far : FAR) {
            badPerson(far);
            badSet(far < 0 ? far : Math.max(far, 1 << persons));
            badNumber(far);
        }
        badPerson(persons);
        badPerson(persons + 1);
        badSet(1 << persons);
        badSet((1 << persons) + 1);
        refused("buy(0)", BAD, x -> x.buy(0));
        for (int i = 0; i < persons; i++) {
            int one = i;
            refused("sell(" + i + ", " + i + ")", BAD, x -> x.sell(one, one));
        }
        refused("write(0, 1)", BAD, x -> x.write(0, 1));
        refused("write(9, 1)", BAD, x -> x.write(9, 1));
        refused("behind(61, true)", BAD, x -> x.behind(61, true));
        refused("behind(61, false)", BAD, x -> x.behind(61, false));
        refused("year(10000, 1, 0)", BAD, x -> x.year(10000, 1, 0));
        refused("year(0, 0, 0)", BAD, x -> x.year(0, 0, 0));
        refused("year(0, 101, 0)", BAD, x -> x.year(0, 101, 0));
        refused("seen(0, 8, true)", BAD, x -> x.seen(0, 8, true));
        refused("person(0, 6)", BAD, x -> x.person(0, 6));
        refused("count(7)", BAD, x -> x.count(7));
        refused("rests(-2)", BAD, x -> x.rests(-2));
        badWhat(2);
        badWhat(3);
    }

    private void badPerson(int i) {
        refused("person(" + i + ", 0)", BAD, x -> x.person(i, 0));
        refused("worth(" + i + ", 0)", BAD, x -> x.worth(i, 0));
        refused("toss(" + i + ")", BAD, x -> x.toss(i));
        refused("sell(" + i + ", 0)", BAD, x -> x.sell(i, 0));
        refused("sell(1, " + i + ")", BAD, x -> x.sell(1, i));
        refused("sell(0, " + i + ")", BAD, x -> x.sell(0, i));
        refused("sell(" + i + ", " + i + ")", BAD, x -> x.sell(i, i));
        refused("price(" + i + ")", BAD, x -> x.price(i));
        refused("place(" + i + ", 0)", BAD, x -> x.place(i, 0));
        refused("burn(" + i + ")", BAD, x -> x.burn(i));
        refused("seen(" + i + ", 0, true)", BAD, x -> x.seen(i, 0, true));
        refused("likes(" + i + ", 0)", BAD, x -> x.likes(i, 0));
        refused("likes(" + i + ", 1)", BAD, x -> x.likes(i, 1));
    }

    private void badSet(int set) {
        refused("worth(0, " + set + ")", BAD, x -> x.worth(0, set));
        refused("buy(" + set + ")", BAD, x -> x.buy(set));
        refused("tip(" + set + ", true, 0)", BAD, x -> x.tip(set, true, 0));
        refused("tip(" + set + ", false, 1)", BAD, x -> x.tip(set, false, 1));
    }

    /** What is no number of bytes, OTHERS, z, days or whats; some are ROUNDS. */
    private void badNumber(int far) {
        refused("write(" + far + ", -1)", BAD, x -> x.write(far, -1));
        refused("seen(0, " + far + ", false)", BAD, x -> x.seen(0, far, false));
        refused("count(" + far + ")", BAD, x -> x.count(far));
        refused("person(0, " + far + ")", BAD, x -> x.person(0, far));
        if (far < 0 || far > 60) {
            refused("behind(" + far + ", true)", BAD, x -> x.behind(far, true));
        }
        if (far < 0 || far > 9999) {
            refused("year(" + far + ", 1, 0)", BAD, x -> x.year(far, 1, 0));
        }
        if (far < 0 || far > 100) {
            refused("year(0, " + far + ", 1)", BAD, x -> x.year(0, far, 1));
        }
        if (far < -1) {
            refused("rests(" + far + ")", BAD, x -> x.rests(far));
        }
        badWhat(far);
    }

    private void badWhat(int what) {
        refused("would(" + what + ")", BAD, x -> x.would(what));
        refused("rest(true, " + what + ")", BAD, x -> x.rest(true, what));
        refused("rest(false, " + what + ")", BAD, x -> x.rest(false, what));
        refused("tip(0, true, " + what + ")", BAD, x -> x.tip(0, true, what));
        refused("place(0, " + what + ")", BAD, x -> x.place(0, what));
        refused("place(1, " + what + ")", BAD, x -> x.place(1, what));
        refused("likes(0, " + what + ")", BAD, x -> x.likes(0, what));
        refused("year(0, 1, " + what + ")", BAD, x -> x.year(0, 1, what));
    }

    /** Calls that ask, and change nothing. */
    private void questions(int persons) {
        asked("fault()", DearAsMany::fault);
        asked("share()", DearAsMany::share);
        for (int what = 0; what <= 1; what++) {
            int w = what;
            asked("would(" + w + ")", x -> x.would(w));
            asked("rest(true, " + w + ")", x -> x.rest(true, w));
            asked("rest(false, " + w + ")", x -> x.rest(false, w));
            asked("year(9999, 100, " + w + ")", x -> x.year(9999, 100, w));
            asked("tip(1, true, " + w + ")", x -> x.tip(1, true, w));
            asked("tip(0, false, " + w + ")", x -> x.tip(0, false, w));
            asked("behind(60, .)", x -> x.behind(60, w == 1));
            asked("rests(" + (w - 1) + ")", x -> x.rests(w - 1));
        }
        for (int i = 0; i < persons; i++) {
            int one = i;
            asked("worth(" + i + ", 3)", x -> x.worth(one, 3));
            asked("price(" + i + ")", x -> x.price(one));
            asked("place(" + i + ", 0)", x -> x.place(one, 0));
            asked("place(" + i + ", 1)", x -> x.place(one, 1));
            asked("burn(" + i + ")", x -> x.burn(one));
            asked("likes(" + i + ", 1)", x -> x.likes(one, 1));
        }
    }
}
