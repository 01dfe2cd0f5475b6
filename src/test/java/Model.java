import java.util.ArrayDeque;
import java.util.ArrayList;
import java.util.Collections;
import java.util.Comparator;
import java.util.Deque;
import java.util.HashMap;
import java.util.List;
import java.util.Map;
import java.util.Set;
import java.util.TreeSet;
import java.util.regex.Matcher;
import java.util.regex.Pattern;

/** The document once more, with sets and lists and no care for speed: what DearAsMany is held against. */
final class Model {
    static final int BAD = -1, NO = -2, FULL = -3, NONE = -4;
    private static final Pattern ITEM = Pattern.compile(
            "(p)(\\d\\d?),(\\d\\d?),(\\d\\d?),(\\d\\d?),(\\d\\d?);|(o)(\\d\\d?);|(s)(\\d\\d?);");

    private record Person(int kind, int w, int c, int home, int purse) { }

    private record State(Set<Integer> owners, List<Integer> pennies) {
        State copy() {
            return new State(new TreeSet<>(owners), new ArrayList<>(pennies));
        }
    }

    private record Sight(int i, int n, boolean bought) { }

    private static final class Town {
        final List<Person> people = new ArrayList<>();
        final Set<Integer> owners = new TreeSet<>();
        int season = 50;
        int fault = NONE;
    }

    private StringBuilder text = new StringBuilder();
    private Town town = parse("p0,9,9,0,9;p0,5,9,1,9;p2,7,9,2,9;");
    private State now = start(town);
    private final Deque<State> undo = new ArrayDeque<>();
    private final Deque<State> kept = new ArrayDeque<>();
    private final List<Sight> sights = new ArrayList<>();

    private static State start(Town town) {
        List<Integer> pennies = new ArrayList<>();
        for (Person p : town.people) {
            pennies.add(p.purse);
        }
        return new State(new TreeSet<>(town.owners), pennies);
    }

    private static Town parse(String text) {
        Town town = new Town();
        Matcher m = ITEM.matcher(text);
        int at = 0;
        while (at < text.length()) {
            m.region(at, text.length());
            if (!m.lookingAt() || !take(town, m)) {
                town.fault = at;
                return town;
            }
            at = m.end();
        }
        return town;
    }

    private static boolean take(Town town, Matcher m) {
        if (m.group(1) != null) {
            Person p = new Person(num(m, 2), num(m, 3), num(m, 4), num(m, 5), num(m, 6));
            return p.kind <= 3 && p.c <= 18 && p.home <= 7 && town.people.size() < 7 && town.people.add(p);
        }
        if (m.group(7) != null) {
            int i = num(m, 8);
            if (i >= town.people.size()) {
                return false;
            }
            town.owners.add(i);
            return true;
        }
        town.season = num(m, 10);
        return true;
    }

    private static int num(Matcher m, int group) {
        return Integer.parseInt(m.group(group));
    }

    // ---- sets

    private static Set<Integer> set(int bits) {
        Set<Integer> s = new TreeSet<>();
        for (int i = 0; i < 31; i++) {
            if ((bits >> i & 1) == 1) {
                s.add(i);
            }
        }
        return s;
    }

    private static int bits(Set<Integer> s) {
        int b = 0;
        for (int i : s) {
            b += 1 << i;
        }
        return b;
    }


    private static Set<Integer> minus(Set<Integer> a, Set<Integer> b) {
        Set<Integer> s = new TreeSet<>(a);
        s.removeAll(b);
        return s;
    }

    private boolean noPerson(int i) {
        return i < 0 || i >= town.people.size();
    }

    private boolean noSet(int bits) {
        return bits < 0 || bits >= (int) Math.pow(2, town.people.size());
    }

    private int allSets() {
        return (int) Math.pow(2, town.people.size());
    }

    // ---- terms

    private int others(int home, Set<Integer> owners) {
        Set<Integer> homes = new TreeSet<>();
        for (int j : owners) {
            homes.add(town.people.get(j).home);
        }
        homes.remove(home);
        return homes.size();
    }

    private int others(Person p, Set<Integer> owners) {
        return others(p.home, owners);
    }

    private static int worth(Person p, int others, int season) {
        if (p.kind == 1 && others > 0) {
            return 0;
        }
        if (p.kind == 2 && others > 0) {
            return -1;
        }
        if (p.kind == 3 && others < 2) {
            return 0;
        }
        int sum = p.w + season - 50;
        for (int k = 0; k < others; k++) {
            sum += p.c - 9;
        }
        return sum;
    }

    private int worthTo(int i, Set<Integer> owners, int season) {
        Person p = town.people.get(i);
        return worth(p, others(p, owners), season);
    }

    private boolean wouldBuy(int i, Set<Integer> owners, int season) {
        return !owners.contains(i) && worthTo(i, owners, season) > others(town.people.get(i), owners);
    }

    private boolean wouldDrop(int i, Set<Integer> owners, int season) {
        return owners.contains(i) && worthTo(i, owners, season) < 0;
    }

    private Set<Integer> round(Set<Integer> owners, boolean turns, int season) {
        Set<Integer> next = new TreeSet<>(owners);
        for (int i = 0; i < town.people.size(); i++) {
            Set<Integer> by = turns ? new TreeSet<>(next) : owners;
            if (wouldBuy(i, by, season)) {
                next.add(i);
            } else if (wouldDrop(i, by, season)) {
                next.remove(i);
            }
        }
        return next;
    }

    /** The rounds to rest (or NONE), the length of the swing, and the set it rests with (or NONE). */
    private int[] run(Set<Integer> from, boolean turns) {
        Map<Set<Integer>, Integer> when = new HashMap<>();
        Set<Integer> s = from;
        for (int r = 0; ; r++) {
            if (when.containsKey(s)) {
                int length = r - when.get(s);
                boolean still = length == 1;
                return new int[] {still ? when.get(s) : NONE, length, still ? bits(s) : NONE};
            }
            when.put(s, r);
            s = round(s, turns, town.season);
        }
    }

    /** Of fewest, of several the lowest. */
    private static int least(List<Integer> sets) {
        return sets.isEmpty() ? NONE : Collections.min(sets,
                Comparator.<Integer>comparingInt(Integer::bitCount).thenComparingInt(k -> k));
    }

    // ---- the face

    int write(int n, long v) {
        if (n < 1 || n > 8) {
            return BAD;
        }
        if (text.length() + n > 300) {
            return FULL;
        }
        String all = String.format("%016x", v).substring(16 - 2 * n);
        for (int k = 0; k < n; k++) {
            text.append((char) Integer.parseInt(all.substring(2 * k, 2 * k + 2), 16));
        }
        return text.length();
    }

    int wipe() {
        int was = text.length();
        text = new StringBuilder();
        return was;
    }

    int fault() {
        return parse(text.toString()).fault;
    }

    int lay() {
        Town read = parse(text.toString());
        if (read.fault != NONE || read.people.isEmpty()) {
            return NO;
        }
        town = read;
        now = start(town);
        undo.clear();
        kept.clear();
        sights.clear();
        return town.people.size();
    }

    int person(int i, int what) {
        if (noPerson(i) || what < 0 || what > 5) {
            return BAD;
        }
        Person p = town.people.get(i);
        int[] all = {p.kind, p.w, p.c, p.home, now.pennies.get(i) + 1000, now.owners.contains(i) ? 1 : 0};
        return all[what];
    }

    int worth(int i, int set) {
        return noPerson(i) || noSet(set) ? BAD : worthTo(i, set(set), town.season) + 1000;
    }

    int buy(int bits) {
        if (noSet(bits) || bits == 0) {
            return BAD;
        }
        Set<Integer> buyers = set(bits);
        State next = now.copy();
        next.owners.addAll(buyers);
        int all = 0;
        for (int i : buyers) {
            int cost = others(town.people.get(i), next.owners);
            if (now.owners.contains(i) || now.pennies.get(i) < cost) {
                return NO;
            }
            next.pennies.set(i, now.pennies.get(i) - cost);
            all += cost;
        }
        go(next);
        return all;
    }

    private void go(State next) {
        undo.addLast(now);
        if (undo.size() > 8) {
            undo.removeFirst();
        }
        now = next;
    }

    int toss(int i) {
        if (noPerson(i)) {
            return BAD;
        }
        State next = now.copy();
        if (!next.owners.remove(i)) {
            return NO;
        }
        go(next);
        return next.owners.size();
    }

    int sell(int i, int j) {
        if (noPerson(i) || noPerson(j) || i == j) {
            return BAD;
        }
        State next = now.copy();
        if (!next.owners.remove(i)) {
            return NO;
        }
        int cost = others(town.people.get(j), next.owners);
        if (!next.owners.add(j) || next.pennies.get(j) < cost) {
            return NO;
        }
        next.pennies.set(i, next.pennies.get(i) + cost);
        next.pennies.set(j, next.pennies.get(j) - cost);
        go(next);
        return cost;
    }

    int undo() {
        if (undo.isEmpty()) {
            return NO;
        }
        now = undo.removeLast();
        return undo.size();
    }

    int price(int i) {
        if (noPerson(i)) {
            return BAD;
        }
        return now.owners.contains(i) ? NO : others(town.people.get(i), now.owners);
    }

    int would(int what) {
        if (what != 0 && what != 1) {
            return BAD;
        }
        Set<Integer> who = new TreeSet<>();
        for (int i = 0; i < town.people.size(); i++) {
            if (what == 0 ? wouldBuy(i, now.owners, town.season) : wouldDrop(i, now.owners, town.season)) {
                who.add(i);
            }
        }
        return bits(who);
    }

    int behind(int n, boolean turns) {
        if (n < 0 || n > 60) {
            return BAD;
        }
        Set<Integer> s = now.owners;
        for (int r = 0; r < n; r++) {
            s = round(s, turns, town.season);
        }
        return bits(s);
    }

    int rest(boolean turns, int what) {
        return what != 0 && what != 1 ? BAD : run(now.owners, turns)[what];
    }

    int rests(int i) {
        if (i < -1) {
            return BAD;
        }
        List<Integer> all = new ArrayList<>();
        for (int b = 0; b < allSets(); b++) {
            if (round(set(b), true, town.season).equals(set(b))) {
                all.add(b);
            }
        }
        return i == -1 ? all.size() : i < all.size() ? all.get(i) : NONE;
    }

    int tip(int goal, boolean turns, int what) {
        if (noSet(goal) || what != 0 && what != 1) {
            return BAD;
        }
        List<Integer> fit = new ArrayList<>();
        for (int b = 0; b < allSets(); b++) {
            if (run(set(bits(now.owners) ^ b), turns)[2] == goal) {
                fit.add(b);
            }
        }
        int least = least(fit);
        return least == NONE ? NONE : what == 0 ? set(least).size() : least;
    }

    int place(int i, int what) {
        if (noPerson(i) || what != 0 && what != 1) {
            return BAD;
        }
        if (now.owners.contains(i)) {
            return NO;
        }
        List<Integer> row = new ArrayList<>();
        for (int j = 0; j < town.people.size(); j++) {
            if (j != i && !now.owners.contains(j)) {
                row.add(j);
            }
        }
        List<Integer> gains = new ArrayList<>();
        for (int k = 0; k <= row.size(); k++) {
            List<Integer> all = new ArrayList<>(row);
            all.add(k, i);
            gains.add(gain(i, all));
        }
        int best = Collections.max(gains);
        return what == 0 ? gains.indexOf(best) : best + 1000;
    }

    private int gain(int i, List<Integer> row) {
        Set<Integer> s = new TreeSet<>(now.owners);
        int paid = 0;
        for (int j : row) {
            if (j == i) {
                paid = others(town.people.get(i), s);
                s.add(i);
            } else if (wouldBuy(j, s, town.season)) {
                s.add(j);
            }
        }
        return worthTo(i, s, town.season) - paid;
    }

    int burn(int i) {
        if (noPerson(i)) {
            return BAD;
        }
        if (now.owners.contains(i)) {
            return NO;
        }
        List<Integer> fit = new ArrayList<>();
        for (int b = 0; b < allSets(); b++) {
            if (now.owners.containsAll(set(b)) && wouldBuy(i, minus(now.owners, set(b)), town.season)) {
                fit.add(b);
            }
        }
        return least(fit);
    }

    int share() {
        int most = 0;
        int best = NONE;
        for (int i = 0; i < 7; i++) {
            for (int j = i + 1; j < 7; j++) {
                if (noPerson(j) || now.owners.contains(i) || now.owners.contains(j)) {
                    continue;
                }
                Person p = town.people.get(i);
                Person q = town.people.get(j);
                Person moved = new Person(q.kind, q.w, q.c, p.home, q.purse);
                int gain = worth(p, others(p, now.owners), town.season)
                        + worth(moved, others(moved, now.owners), town.season) - others(p, now.owners);
                if (gain > most) {
                    most = gain;
                    best = Integer.parseInt("" + i + j);
                }
            }
        }
        return best;
    }

    int seen(int i, int n, boolean bought) {
        if (noPerson(i) || n < 0 || n > 7) {
            return BAD;
        }
        if (sights.size() == 8) {
            return FULL;
        }
        sights.add(new Sight(i, n, bought));
        return sights.size();
    }

    int forget() {
        int were = sights.size();
        sights.clear();
        return were;
    }

    int likes(int i, int what) {
        if (noPerson(i) || what != 0 && what != 1) {
            return BAD;
        }
        Person p = town.people.get(i);
        List<Integer> fit = new ArrayList<>();
        for (int w = 0; w <= 99; w++) {
            Person q = new Person(p.kind, w, p.c, p.home, p.purse);
            boolean all = true;
            for (Sight s : sights) {
                all &= s.i != i || worth(q, s.n, 50) > s.n == s.bought;
            }
            if (all) {
                fit.add(w);
            }
        }
        return what == 0 ? fit.size() : fit.isEmpty() ? NONE : fit.get(0);
    }

    int year(int z, int n, int what) {
        if (z < 0 || z > 9999 || n < 1 || n > 100 || what != 0 && what != 1) {
            return BAD;
        }
        Set<Integer> s = now.owners;
        List<Integer> many = new ArrayList<>();
        for (long t = 0; t < n; t++) {
            long x = 7919L * z + 6151 * t + 1;
            s = round(s, true, (int) (x * x % 65521 % 100));
            many.add(s.size());
        }
        return what == 0 ? many.get(n - 1) : many.indexOf(Collections.max(many));
    }

    int keep() {
        if (kept.size() == 2) {
            return FULL;
        }
        kept.addLast(now.copy());
        return kept.size();
    }

    int back() {
        if (kept.isEmpty()) {
            return NO;
        }
        now = kept.removeLast();
        undo.clear();
        return kept.size();
    }

    int count(int what) {
        int[] all = {town.people.size(), bits(now.owners), town.season, sights.size(), undo.size(), kept.size(),
            text.length()};
        return what < 0 || what >= all.length ? BAD : all[what];
    }
}
