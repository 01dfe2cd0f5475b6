/** A thing that costs as many pennies as there are others who own one: see README.md and ../shared/DOC.md. */
public final class DearAsMany {
    public static final int BAD = -1, NO = -2, FULL = -3, NONE = -4;

    private static final int MOST_BYTES = 300;
    private static final int MOST_PERSONS = 7;
    private static final int MOST_SETS = 128;
    private static final int MOST_HOMES = 8;
    private static final int MOST_UNDONE = 8;
    private static final int MOST_KEPT = 2;
    private static final int MOST_SEEN = 8;
    private static final int MOST_ROUNDS = 60;
    private static final int MOST_DAYS = 100;
    private static final int MOST_SHOWERS = 9999;
    private static final int MOST_OTHERS = 7;
    private static final int MOST_LIKING = 99;

    private static final int KIND = 0, LIKING = 1, TASTE = 2, HOME = 3, PURSE = 4, TRAITS = 5;
    private static final int PLAIN = 0, FIRST = 1, FOP = 2, FOLLOWER = 3;
    private static final int MOST_TASTE = 18;
    private static final int EVEN_SEASON = 50, EVEN_TASTE = 9;

    /** What is added to an answer that may be below 0, so that it is never taken for BAD, NO, FULL or NONE. */
    private static final int LIFT = 1000;

    private final Text text = new Text();
    private final Reader reader = new Reader();
    private final People told = new People();
    private final Market market = new Market();
    private final Course course = new Course(market);
    private final Counsel counsel = new Counsel(market);
    private final Holding now = new Holding();
    private final Pile undoable = new Pile(MOST_UNDONE);
    private final Pile kept = new Pile(MOST_KEPT);
    private final Sightings sightings = new Sightings();

    public DearAsMany() {
        told.add(PLAIN, 9, 9, 0, 9);
        told.add(PLAIN, 5, 9, 1, 9);
        told.add(FOP, 7, 9, 2, 9);
        settle();
    }

    // ---- towns

    public int write(int n, long v) {
        if (n < 1 || n > 8) {
            return BAD;
        }
        if (!text.hasRoomFor(n)) {
            return FULL;
        }
        for (int k = n - 1; k >= 0; k--) {
            text.append((int) (v >>> (8 * k)) & 255);
        }
        return text.length;
    }

    public int wipe() {
        return text.empty();
    }

    public int fault() {
        return reader.readAll(text, told);
    }

    public int lay() {
        if (reader.readAll(text, told) != NONE || told.size == 0) {
            return NO;
        }
        settle();
        return market.people.size;
    }

    public int person(int i, int what) {
        if (!isPerson(i) || what < 0 || what > 5) {
            return BAD;
        }
        if (what == 4) {
            return now.penniesOf(i) + LIFT;
        }
        if (what == 5) {
            return now.owns(i) ? 1 : 0;
        }
        return market.people.trait(i, what);
    }

    public int worth(int i, int set) {
        if (!isPerson(i) || !isSet(set)) {
            return BAD;
        }
        return market.valueTo(i, set, season()) + LIFT;
    }

    // ---- buying

    public int buy(int set) {
        if (!isSet(set) || set == 0) {
            return BAD;
        }
        if ((now.owners & set) != 0 || !canPay(set)) {
            return NO;
        }
        undoable.pushOverOldest(now);
        int together = now.owners | set;
        int all = 0;
        for (int i = 0; i < market.people.size; i++) {
            if (has(set, i)) {
                int cost = market.othersOf(i, together);
                now.earn(i, -cost);
                all += cost;
            }
        }
        now.owners = together;
        return all;
    }

    public int toss(int i) {
        if (!isPerson(i)) {
            return BAD;
        }
        if (!now.owns(i)) {
            return NO;
        }
        undoable.pushOverOldest(now);
        now.owners &= ~bit(i);
        return Integer.bitCount(now.owners);
    }

    public int sell(int i, int j) {
        if (!isPerson(i) || !isPerson(j) || i == j) {
            return BAD;
        }
        if (!now.owns(i) || now.owns(j)) {
            return NO;
        }
        int left = now.owners & ~bit(i);
        int cost = market.othersOf(j, left);
        if (now.penniesOf(j) < cost) {
            return NO;
        }
        undoable.pushOverOldest(now);
        now.owners = left | bit(j);
        now.earn(j, -cost);
        now.earn(i, cost);
        return cost;
    }

    public int undo() {
        if (undoable.size == 0) {
            return NO;
        }
        undoable.popInto(now);
        return undoable.size;
    }

    public int price(int i) {
        if (!isPerson(i)) {
            return BAD;
        }
        return now.owns(i) ? NO : market.othersOf(i, now.owners);
    }

    public int would(int what) {
        if (!isEither(what)) {
            return BAD;
        }
        int changers = market.changersBy(now.owners, season());
        return changers & (what == 0 ? ~now.owners : now.owners);
    }

    // ---- rounds

    public int behind(int n, boolean turns) {
        if (n < 0 || n > MOST_ROUNDS) {
            return BAD;
        }
        return course.ownersBehind(now.owners, n, turns);
    }

    public int rest(boolean turns, int what) {
        if (!isEither(what)) {
            return BAD;
        }
        return what == 0 ? course.roundsToRest(now.owners, turns) : course.roundsOfSwing(now.owners, turns);
    }

    public int rests(int i) {
        if (i < -1) {
            return BAD;
        }
        return i == -1 ? course.countRests() : course.restAt(i);
    }

    public int tip(int set, boolean turns, int what) {
        if (!isSet(set) || !isEither(what)) {
            return BAD;
        }
        int push = course.leastPush(now.owners, set, turns);
        return push < 0 || what == 1 ? push : Integer.bitCount(push);
    }

    // ---- when, whose, with whom

    public int place(int i, int what) {
        if (!isPerson(i) || !isEither(what)) {
            return BAD;
        }
        if (now.owns(i)) {
            return NO;
        }
        int ahead = counsel.bestAhead(i, now.owners);
        return what == 0 ? ahead : counsel.gainBehind(i, ahead, now.owners) + LIFT;
    }

    public int burn(int i) {
        if (!isPerson(i)) {
            return BAD;
        }
        return now.owns(i) ? NO : counsel.leastBurnt(i, now.owners);
    }

    public int share() {
        return counsel.bestPair(now.owners);
    }

    // ---- likes, years

    public int seen(int i, int n, boolean bought) {
        if (!isPerson(i) || n < 0 || n > MOST_OTHERS) {
            return BAD;
        }
        if (sightings.size >= MOST_SEEN) {
            return FULL;
        }
        sightings.add(i, n, bought);
        return sightings.size;
    }

    public int forget() {
        int were = sightings.size;
        sightings.size = 0;
        return were;
    }

    public int likes(int i, int what) {
        if (!isPerson(i) || !isEither(what)) {
            return BAD;
        }
        int many = 0;
        int lowest = NONE;
        for (int liking = MOST_LIKING; liking >= 0; liking--) {
            if (sightings.fit(i, liking, market.people)) {
                many++;
                lowest = liking;
            }
        }
        return what == 0 ? many : lowest;
    }

    public int year(int z, int n, int what) {
        if (z < 0 || z > MOST_SHOWERS || n < 1 || n > MOST_DAYS || !isEither(what)) {
            return BAD;
        }
        return what == 0 ? course.ownersBehindYear(now.owners, z, n) : course.bestDay(now.owners, z, n);
    }

    public int keep() {
        if (kept.size >= MOST_KEPT) {
            return FULL;
        }
        kept.push(now);
        return kept.size;
    }

    public int back() {
        if (kept.size == 0) {
            return NO;
        }
        kept.popInto(now);
        undoable.size = 0;
        return kept.size;
    }

    public int count(int what) {
        switch (what) {
            case 0: return market.people.size;
            case 1: return now.owners;
            case 2: return season();
            case 3: return sightings.size;
            case 4: return undoable.size;
            case 5: return kept.size;
            case 6: return text.length;
            default: return BAD;
        }
    }

    // ---- of the town as it stands

    /** The people told become those of the town, and all begins anew with them. */
    private void settle() {
        market.open(told);
        now.begin(market.people);
        undoable.size = 0;
        kept.size = 0;
        sightings.size = 0;
    }

    private boolean isPerson(int i) {
        return i >= 0 && i < market.people.size;
    }

    private boolean isSet(int set) {
        return set >= 0 && set < market.people.sets();
    }

    private int season() {
        return market.people.season;
    }

    private boolean canPay(int set) {
        for (int i = 0; i < market.people.size; i++) {
            if (has(set, i) && now.penniesOf(i) < market.othersOf(i, now.owners | set)) {
                return false;
            }
        }
        return true;
    }

    // ---- numbers, sets, rows

    private static boolean isEither(int what) {
        return what == 0 || what == 1;
    }

    private static int bit(int i) {
        return 1 << i;
    }

    private static boolean has(int set, int i) {
        return (set & bit(i)) != 0;
    }

    private static int at(int[] row, int i) {
        return i >= 0 && i < row.length ? row[i] : 0;
    }

    private static void put(int[] row, int i, int value) {
        if (i >= 0 && i < row.length) {
            row[i] = value;
        }
    }

    /** WORTH of the thing to one of a kind with so many OTHERS. */
    private static int valueOf(int kind, int liking, int taste, int season, int others) {
        if (kind == FIRST && others > 0) {
            return 0;
        }
        if (kind == FOP && others > 0) {
            return -1;
        }
        if (kind == FOLLOWER && others < 2) {
            return 0;
        }
        return liking + (season - EVEN_SEASON) + (taste - EVEN_TASTE) * others;
    }

    /** THE TEXT. */
    private static final class Text {
        final byte[] bytes = new byte[MOST_BYTES];
        int length = 0;

        boolean hasRoomFor(int more) {
            return length + more <= MOST_BYTES;
        }

        void append(int sign) {
            if (length >= 0 && length < bytes.length) {
                bytes[length] = (byte) sign;
                length++;
            }
        }

        /** The byte at a place, or -1 where the text has none. */
        int byteAt(int place) {
            return place >= 0 && place < length && place < bytes.length ? bytes[place] & 255 : -1;
        }

        int empty() {
            int were = length;
            length = 0;
            return were;
        }
    }

    /** Reads a text, ITEM by ITEM. */
    private static final class Reader {
        final int[] numbers = new int[TRAITS];
        int place = 0;

        /** FAULT of the text, or NONE: people are then those that it tells. */
        int readAll(Text text, People people) {
            people.clear();
            place = 0;
            for (int items = 0; items < MOST_BYTES && place < text.length; items++) {
                int start = place;
                if (!readItem(text, people)) {
                    return start;
                }
            }
            return NONE;
        }

        private boolean readItem(Text text, People people) {
            int letter = text.byteAt(place);
            place++;
            switch (letter) {
                case 'p':
                    return readNumbers(text, TRAITS) && people.add(at(numbers, KIND), at(numbers, LIKING),
                            at(numbers, TASTE), at(numbers, HOME), at(numbers, PURSE));
                case 'o':
                    return readNumbers(text, 1) && people.giveOne(at(numbers, 0));
                case 's':
                    return readNumbers(text, 1) && people.setSeason(at(numbers, 0));
                default:
                    return false;
            }
        }

        private boolean readNumbers(Text text, int many) {
            for (int k = 0; k < many; k++) {
                int number = readNumber(text);
                if (number < 0 || text.byteAt(place) != (k + 1 < many ? ',' : ';')) {
                    return false;
                }
                place++;
                put(numbers, k, number);
            }
            return true;
        }

        /** A number of one or two figures, or -1. */
        private int readNumber(Text text) {
            int first = figure(text.byteAt(place));
            if (first < 0) {
                return -1;
            }
            place++;
            int second = figure(text.byteAt(place));
            if (second < 0) {
                return first;
            }
            place++;
            return 10 * first + second;
        }

        private static int figure(int sign) {
            return sign >= '0' && sign <= '9' ? sign - '0' : -1;
        }
    }

    /** PERSONS as a text tells them, with who owns one at first, and the SEASON. */
    private static final class People {
        final int[] traits = new int[MOST_PERSONS * TRAITS];
        int size = 0;
        int firstOwners = 0;
        int season = EVEN_SEASON;

        void clear() {
            size = 0;
            firstOwners = 0;
            season = EVEN_SEASON;
        }

        boolean add(int kind, int liking, int taste, int home, int purse) {
            if (size >= MOST_PERSONS || kind > FOLLOWER || taste > MOST_TASTE || home >= MOST_HOMES) {
                return false;
            }
            put(traits, size * TRAITS + KIND, kind);
            put(traits, size * TRAITS + LIKING, liking);
            put(traits, size * TRAITS + TASTE, taste);
            put(traits, size * TRAITS + HOME, home);
            put(traits, size * TRAITS + PURSE, purse);
            size++;
            return true;
        }

        boolean giveOne(int i) {
            if (i >= size) {
                return false;
            }
            firstOwners |= bit(i);
            return true;
        }

        boolean setSeason(int told) {
            season = told;
            return true;
        }

        int trait(int i, int which) {
            int k = i * TRAITS + which;
            return k >= 0 && k < traits.length ? traits[k] : 0;
        }

        int sets() {
            return 1 << size;
        }

        void copy(People other) {
            for (int k = 0; k < traits.length; k++) {
                put(traits, k, at(other.traits, k));
            }
            size = other.size;
            firstOwners = other.firstOwners;
            season = other.season;
        }
    }

    /** Who owns one, and everybody's pennies. */
    private static final class Holding {
        final int[] pennies = new int[MOST_PERSONS];
        int owners = 0;

        void begin(People people) {
            owners = people.firstOwners;
            for (int i = 0; i < MOST_PERSONS; i++) {
                put(pennies, i, people.trait(i, PURSE));
            }
        }

        boolean owns(int i) {
            return has(owners, i);
        }

        int penniesOf(int i) {
            return at(pennies, i);
        }

        void earn(int i, int more) {
            put(pennies, i, at(pennies, i) + more);
        }
    }

    /** OWNERS and pennies of earlier, one on another. */
    private static final class Pile {
        static final int WIDTH = MOST_PERSONS + 1;
        final int most;
        final int[] rows;
        int size = 0;

        /** For at least one row. */
        Pile(int most) {
            this.most = most > 1 ? most : 1;
            rows = new int[this.most * WIDTH];
        }

        void push(Holding holding) {
            if (size >= most) {
                return;
            }
            int start = size * WIDTH;
            for (int i = 0; i < MOST_PERSONS; i++) {
                put(rows, start + i, holding.penniesOf(i));
            }
            put(rows, start + MOST_PERSONS, holding.owners);
            size++;
        }

        /** The oldest goes, where there is no room. */
        void pushOverOldest(Holding holding) {
            if (size >= most) {
                for (int k = WIDTH; k < rows.length; k++) {
                    put(rows, k - WIDTH, at(rows, k));
                }
                size = most - 1;
            }
            push(holding);
        }

        void popInto(Holding holding) {
            if (size <= 0) {
                return;
            }
            size--;
            int start = size * WIDTH;
            for (int i = 0; i < MOST_PERSONS; i++) {
                put(holding.pennies, i, at(rows, start + i));
            }
            holding.owners = at(rows, start + MOST_PERSONS);
        }
    }

    /** The people laid: OTHERS, WORTH and who WOULD, by any set of owners and any season. */
    private static final class Market {
        final People people = new People();
        /** By a set of PERSONS the set of their HOUSEHOLDS; by nobody always none. */
        final int[] homes = new int[MOST_SETS];

        void open(People told) {
            people.copy(told);
            for (int i = 0; i < people.size; i++) {
                int home = bit(people.trait(i, HOME));
                for (int set = 0; set < bit(i); set++) {
                    put(homes, set | bit(i), at(homes, set) | home);
                }
            }
        }

        int othersOf(int i, int set) {
            return Integer.bitCount(at(homes, set) & ~bit(people.trait(i, HOME)));
        }

        int valueTo(int i, int set, int season) {
            return valueWith(i, othersOf(i, set), season);
        }

        int valueWith(int i, int others, int season) {
            return valueOf(people.trait(i, KIND), people.trait(i, LIKING), people.trait(i, TASTE), season, others);
        }

        /** Whether one who owns none WOULD buy. */
        boolean wants(int i, int owners, int season) {
            int others = othersOf(i, owners);
            return valueWith(i, others, season) > others;
        }

        /** Whether one changes owning by these owners: buys, or is rid of it. */
        boolean changes(int i, int owners, int season) {
            int others = othersOf(i, owners);
            int value = valueWith(i, others, season);
            return has(owners, i) ? value < 0 : value > others;
        }

        int changersBy(int owners, int season) {
            int set = 0;
            for (int i = 0; i < people.size; i++) {
                if (changes(i, owners, season)) {
                    set |= bit(i);
                }
            }
            return set;
        }

        /** Owners behind one round. */
        int nextOwners(int owners, boolean turns, int season) {
            int set = owners;
            for (int i = 0; i < people.size; i++) {
                if (changes(i, turns ? set : owners, season)) {
                    set ^= bit(i);
                }
            }
            return set;
        }
    }

    /** ROUNDS: what comes behind them. */
    private static final class Course {
        final Market market;
        /** By a set of PERSONS the owners behind rounds that begin with it. */
        final int[] onward = new int[MOST_SETS];

        Course(Market market) {
            this.market = market;
        }

        int ownersBehind(int owners, int rounds, boolean turns) {
            int season = market.people.season;
            int set = owners;
            for (int r = 0; r < rounds; r++) {
                set = market.nextOwners(set, turns, season);
            }
            return set;
        }

        /** As many rounds as there are sets come to rest, or never do. */
        int roundsToRest(int owners, boolean turns) {
            int season = market.people.season;
            int set = owners;
            for (int r = 0; r < MOST_SETS; r++) {
                int next = market.nextOwners(set, turns, season);
                if (next == set) {
                    return r;
                }
                set = next;
            }
            return NONE;
        }

        int roundsOfSwing(int owners, boolean turns) {
            int season = market.people.season;
            int start = ownersBehind(owners, MOST_SETS, turns);
            int set = market.nextOwners(start, turns, season);
            int rounds = 1;
            while (set != start && rounds < MOST_SETS) {
                set = market.nextOwners(set, turns, season);
                rounds++;
            }
            return rounds;
        }

        boolean restsWith(int set) {
            return market.changersBy(set, market.people.season) == 0;
        }

        int countRests() {
            int many = 0;
            for (int set = 0; set < market.people.sets(); set++) {
                if (restsWith(set)) {
                    many++;
                }
            }
            return many;
        }

        /** The i-th set with which it rests, or NONE. */
        int restAt(int i) {
            int ahead = 0;
            for (int set = 0; set < market.people.sets(); set++) {
                if (restsWith(set)) {
                    if (ahead == i) {
                        return set;
                    }
                    ahead++;
                }
            }
            return NONE;
        }

        /** TIP: the set of those whose owning is changed, or NONE. */
        int leastPush(int owners, int goal, boolean turns) {
            if (!restsWith(goal)) {
                return NONE;
            }
            lookFarAhead(turns);
            int best = NONE;
            int fewest = MOST_PERSONS + 1;
            for (int push = 0; push < market.people.sets(); push++) {
                int many = Integer.bitCount(push);
                if (many < fewest && at(onward, owners ^ push) == goal) {
                    best = push;
                    fewest = many;
                }
            }
            return best;
        }

        /** Each pass at least doubles the rounds that are looked ahead: seven passes see as many as there are sets. */
        private void lookFarAhead(boolean turns) {
            int season = market.people.season;
            for (int set = 0; set < market.people.sets(); set++) {
                put(onward, set, market.nextOwners(set, turns, season));
            }
            for (int pass = 0; pass < MOST_PERSONS; pass++) {
                for (int set = 0; set < market.people.sets(); set++) {
                    put(onward, set, at(onward, at(onward, set)));
                }
            }
        }

        int ownersBehindYear(int owners, int z, int days) {
            int set = owners;
            for (int t = 0; t < days; t++) {
                set = market.nextOwners(set, true, seasonOn(z, t));
            }
            return Integer.bitCount(set);
        }

        int bestDay(int owners, int z, int days) {
            int set = owners;
            int best = 0;
            int most = -1;
            for (int t = 0; t < days; t++) {
                set = market.nextOwners(set, true, seasonOn(z, t));
                int many = Integer.bitCount(set);
                if (many > most) {
                    most = many;
                    best = t;
                }
            }
            return best;
        }

        private static int seasonOn(int z, int t) {
            long x = 7919L * z + 6151L * t + 1;
            return (int) (x * x % 65521 % 100);
        }
    }

    /** PLACE, BURN, SHARE. */
    private static final class Counsel {
        final Market market;

        Counsel(Market market) {
            this.market = market;
        }

        /** PLACE: how many come ahead of him best. */
        int bestAhead(int i, int owners) {
            int others = market.people.size - Integer.bitCount(owners) - 1;
            int best = 0;
            int most = gainBehind(i, 0, owners);
            for (int ahead = 1; ahead <= others; ahead++) {
                int gain = gainBehind(i, ahead, owners);
                if (gain > most) {
                    most = gain;
                    best = ahead;
                }
            }
            return best;
        }

        /** What it is worth to him by the owners behind all, less what he paid with so many ahead of him. */
        int gainBehind(int i, int ahead, int owners) {
            int set = owners;
            int come = 0;
            int paid = 0;
            for (int j = 0; j <= market.people.size; j++) {
                if (come == ahead && !has(set, i)) {
                    paid = market.othersOf(i, set);
                    set |= bit(i);
                }
                if (j < market.people.size && j != i && !has(owners, j)) {
                    if (market.wants(j, set, market.people.season)) {
                        set |= bit(j);
                    }
                    come++;
                }
            }
            return market.valueTo(i, set, market.people.season) - paid;
        }

        /** BURN, or NONE. */
        int leastBurnt(int i, int owners) {
            int best = NONE;
            int fewest = MOST_PERSONS + 1;
            for (int burnt = 0; burnt <= owners; burnt++) {
                int many = Integer.bitCount(burnt);
                boolean owned = (burnt & ~owners) == 0;
                if (owned && many < fewest && market.wants(i, owners & ~burnt, market.people.season)) {
                    best = burnt;
                    fewest = many;
                }
            }
            return best;
        }

        /** SHARE, or NONE. */
        int bestPair(int owners) {
            int best = NONE;
            int most = 0;
            for (int i = 0; i < market.people.size; i++) {
                for (int j = i + 1; j < market.people.size; j++) {
                    int gain = has(owners, i) || has(owners, j) ? 0 : gainTogether(i, j, owners);
                    if (gain > most) {
                        most = gain;
                        best = 10 * i + j;
                    }
                }
            }
            return best;
        }

        /** With j in the household of i the same households are OTHERS of both. */
        private int gainTogether(int i, int j, int owners) {
            int season = market.people.season;
            int others = market.othersOf(i, owners);
            return market.valueWith(i, others, season) + market.valueWith(j, others, season) - others;
        }
    }

    /** What was SEEN. */
    private static final class Sightings {
        final int[] persons = new int[MOST_SEEN];
        final int[] others = new int[MOST_SEEN];
        final boolean[] purchases = new boolean[MOST_SEEN];
        int size = 0;

        void add(int i, int n, boolean bought) {
            if (size < 0 || size >= purchases.length) {
                return;
            }
            put(persons, size, i);
            put(others, size, n);
            purchases[size] = bought;
            size++;
        }

        /** Whether one would do all that was seen of him, were the thing worth so much to him. */
        boolean fit(int i, int liking, People people) {
            for (int k = 0; k < size && k < purchases.length; k++) {
                int n = at(others, k);
                int value = valueOf(people.trait(i, KIND), liking, people.trait(i, TASTE), EVEN_SEASON, n);
                if (at(persons, k) == i && value > n != purchases[k]) {
                    return false;
                }
            }
            return true;
        }
    }
}
