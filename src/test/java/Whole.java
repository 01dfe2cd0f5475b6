/** All that can be learnt of an object, to be held against that of another one; the object is used up by it. */
final class Whole {
    private static final int MORE_THAN_ANY_PILE = 10;

    private Whole() { }

    /** OWNERS, pennies, what was SEEN, each UNDONE, each KEPT, and what THE TEXT tells. */
    static String of(DearAsMany x) {
        StringBuilder s = new StringBuilder();
        shown(x, s);
        for (int k = 0; k < MORE_THAN_ANY_PILE && x.undo() >= 0; k++) {
            s.append("\nundone:");
            holding(x, s);
        }
        for (int k = 0; k < MORE_THAN_ANY_PILE && x.back() >= 0; k++) {
            s.append("\nkept:");
            holding(x, s);
        }
        s.append("\nfault: ").append(x.fault()).append(", laid: ").append(x.lay());
        shown(x, s);
        return s.toString();
    }

    private static void shown(DearAsMany x, StringBuilder s) {
        s.append("\ncounts:");
        for (int what = 0; what < 7; what++) {
            s.append(' ').append(x.count(what));
        }
        for (int i = 0; i < x.count(0); i++) {
            s.append("\nperson ").append(i).append(':');
            for (int what = 0; what < 6; what++) {
                s.append(' ').append(x.person(i, what));
            }
            s.append(", likes ").append(x.likes(i, 0)).append(' ').append(x.likes(i, 1));
        }
    }

    private static void holding(DearAsMany x, StringBuilder s) {
        s.append(' ').append(x.count(1)).append(" with");
        for (int i = 0; i < x.count(0); i++) {
            s.append(' ').append(x.person(i, 4));
        }
    }
}
