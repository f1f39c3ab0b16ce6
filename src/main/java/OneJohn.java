/**
 * The republic in which a name has a single bearer, in parts.
 * The words in comments and names are those of the document's terms.
 */
public final class OneJohn {
    public static final int BAD = -1, STATE = -2, FULL = -3, NONE = -9;
    public static final int NO = -1000000;

    private static final int MOST_NAMES = 4, MOST_PEOPLE = 7, BILLS = 5;
    private static final int MOST_LETTERS = 200, MOST_CLAIMS = 6, MOST_UNDONE = 10, IMAGES = 2;
    private static final int MOST_TOLD_WEALTH = 99, MOST_WEALTH = 999, MOST_EARNED = 99;
    private static final int MOST_DEEDS = 99, MOST_CHEST = 999999, MOST_YEARS = 999;
    private static final int MOST_CHILDREN = 6, MOST_ASKED = 20;
    private static final int LAW_HURTS = 1, LAW_VOTES = 2, LAW_TAX = 4, LAW_DEEDS = 8, ALL_LAWS = 15;
    private static final int PERSON = 0, JOHN = 1, MARY = 2, SAILOR = 3, TWIN = 4, HEIR = 5;
    private static final int[] MARKS = {1, 10, 100, 1000, 10000, 100000};
    private static final int NOBODY_HURT = 128;

    private final Text text = new Text();
    private final Reader reader = new Reader();
    private final Land land = new Land();
    private final Past past = new Past();
    private final Claims told = new Claims();
    private final Claims records = new Claims();
    private final Renaming renaming = new Renaming();
    private final Wedding wedding = new Wedding();
    private final Now[] images = new Now[IMAGES];
    private final boolean[] kept = new boolean[IMAGES];
    private long trace = 0;

    public OneJohn() {
        for (int i = 0; i < IMAGES; i++) {
            images[i] = new Now();
        }
    }

    // ---- the republic

    public int type(int letter) {
        if (!within(letter, 0, 255)) {
            return BAD;
        }
        if (text.length >= MOST_LETTERS) {
            return FULL;
        }
        text.letters[text.length] = letter;
        text.length++;
        return text.length;
    }

    public int clear() {
        int had = text.length;
        text.length = 0;
        return had;
    }

    public int republic() {
        int items = reader.read(text);
        if (items < 0) {
            return items;
        }
        land.take(reader.draft);
        past.size = 0;
        told.size = 0;
        records.size = 0;
        for (int i = 0; i < IMAGES; i++) {
            kept[i] = false;
        }
        text.length = 0;
        return items;
    }

    public int person(int p, int what) {
        if (!land.hasPerson(p)) {
            return BAD;
        }
        switch (what) {
            case 0: return land.now.names[p];
            case 1: return land.now.wealth[p];
            case 2: return land.favours[p];
            case 3: return bit(land.now.hurt, p);
            case 4: return bit(land.limping(), p);
            case 5: return land.now.deeds[p];
            case 6: return land.fame(p);
            case 7: return land.tax(p);
            default: return BAD;
        }
    }

    public int quarrels(int p) {
        return land.hasPerson(p) ? land.foes[p] : BAD;
    }

    public int name(int k, int what) {
        if (!land.hasName(k)) {
            return BAD;
        }
        int bearers = land.bearers(k);
        int lower = Math.max(1, Integer.bitCount(bearers));
        switch (what) {
            case 0: return bearers;
            case 1: return inLeastTerms(land.wealthOf(bearers), lower);
            case 2: return inLeastTerms(lower, land.wealthOf(bearers));
            default: return BAD;
        }
    }

    public int bill(int b, int what) {
        if (!within(b, 0, BILLS - 1)) {
            return BAD;
        }
        int laws = land.now.laws;
        switch (what) {
            case 0: return land.yes(b, laws, NONE);
            case 1: return land.no(b, laws, NONE);
            case 2: return land.passes(b, laws, NONE) ? 1 : 0;
            case 3: return land.sway(b);
            default: return BAD;
        }
    }

    public int now(int what) {
        switch (what) {
            case 0: return land.now.years;
            case 1: return land.now.chest;
            case 2: return land.now.laws;
            case 3: return land.limping();
            case 4: return land.badOnes();
            case 5: return land.alone();
            case 6: return land.restless();
            case 7: return past.size;
            default: return BAD;
        }
    }

    // ---- what is done

    public int hurts(int p, int is) {
        if (!land.hasPerson(p) || !within(is, 0, 1)) {
            return BAD;
        }
        past.remember(land.now);
        int was = bit(land.now.hurt, p);
        land.now.hurt = (land.now.hurt & ~(1 << p)) | (is << p);
        return was;
    }

    public int deeds(int p) {
        if (!land.hasPerson(p)) {
            return BAD;
        }
        if (land.now.deeds[p] >= MOST_DEEDS) {
            return STATE;
        }
        past.remember(land.now);
        land.now.deeds[p]++;
        return land.fame(p);
    }

    public int earns(int p, int n) {
        if (!land.hasPerson(p) || !within(n, -MOST_EARNED, MOST_EARNED)) {
            return BAD;
        }
        past.remember(land.now);
        land.now.wealth[p] = Math.max(0, Math.min(MOST_WEALTH, land.now.wealth[p] + n));
        return land.now.wealth[p];
    }

    public int names(int p, int k) {
        if (!land.hasPerson(p) || !land.hasName(k)) {
            return BAD;
        }
        past.remember(land.now);
        int was = land.now.names[p];
        land.now.names[p] = k;
        return was;
    }

    public int laws(int set) {
        if (!within(set, 0, ALL_LAWS)) {
            return BAD;
        }
        past.remember(land.now);
        int were = land.now.laws;
        land.now.laws = set;
        return were;
    }

    public int year() {
        if (land.now.years >= MOST_YEARS) {
            return STATE;
        }
        past.remember(land.now);
        return land.payTax();
    }

    public int undo() {
        if (past.size <= 0) {
            return STATE;
        }
        past.recall(land.now);
        return past.size;
    }

    // ---- names

    public int apart(int p) {
        if (p != -1 && !land.hasPerson(p)) {
            return BAD;
        }
        renaming.search(land);
        if (!renaming.found()) {
            return NONE;
        }
        return p == -1 ? renaming.fewest : renaming.best[p];
    }

    public int cheapest(int p) {
        return land.hasPerson(p) ? land.cheapestName(p) : BAD;
    }

    // ---- what was told

    public int tells(int p, int is) {
        if (!land.hasPerson(p) || !within(is, 0, 1)) {
            return BAD;
        }
        return told.add(p, is);
    }

    public int record(int b, int passed) {
        if (!within(b, 0, BILLS - 1) || !within(passed, 0, 1)) {
            return BAD;
        }
        return records.add(b, passed);
    }

    public int forget() {
        int were = told.size + records.size;
        told.size = 0;
        records.size = 0;
        return were;
    }

    public int who() {
        int laws = land.now.laws;
        int answer = told.agree(land.limpingIf(0, laws)) ? NOBODY_HURT : 0;
        for (int p = 0; p < land.people; p++) {
            if (told.agree(land.limpingIf(1 << p, laws))) {
                answer |= 1 << p;
            }
        }
        return answer;
    }

    public int which(int what) {
        if (!within(what, 0, 2)) {
            return BAD;
        }
        int sets = 0;
        int least = NONE;
        int inAll = ALL_LAWS;
        for (int laws = ALL_LAWS; laws >= 0; laws--) {
            if (allIsSo(laws)) {
                sets++;
                least = laws;
                inAll &= laws;
            }
        }
        if (what == 0) {
            return sets;
        }
        if (sets == 0) {
            return NONE;
        }
        return what == 1 ? least : inAll;
    }

    private boolean allIsSo(int laws) {
        return told.agree(land.limpingIf(land.now.hurt, laws)) && records.agree(land.passing(laws));
    }

    // ---- marriages, odds

    public int married(int p) {
        if (p != -1 && !land.hasPerson(p)) {
            return BAD;
        }
        wedding.search(land);
        return p == -1 ? wedding.most : wedding.best[p];
    }

    public int odds(int k, int n, int v, int what) {
        if (!land.hasName(k) || !within(n, 0, MOST_CHILDREN)) {
            return BAD;
        }
        if (!within(v, 0, MOST_ASKED) || !within(what, 0, 1)) {
            return BAD;
        }
        int lacking = v - Integer.bitCount(land.bearers(k));
        int upper = christenings(n, Math.max(0, lacking));
        int lower = power(land.nameCount, n);
        return what == 0 ? inLeastTerms(upper, lower) : inLeastTerms(lower, upper);
    }

    /** In how many ways n children are christened so that the NAME comes to so many of them at least. */
    private int christenings(int n, int atLeast) {
        int ways = 0;
        for (int some = atLeast; some <= n; some++) {
            ways += choices(n, some) * power(land.nameCount - 1, n - some);
        }
        return ways;
    }

    // ---- kinds, images

    public int rate(int kind, int p) {
        if (!within(kind, PERSON, HEIR) || !land.hasPerson(p)) {
            return NO;
        }
        return rateAs(kind, p);
    }

    /** Each KIND asks the one above it, two levels up at most. */
    private int rateAs(int kind, int p) {
        trace += MARKS[kind];
        switch (kind) {
            case JOHN: return rateAs(PERSON, p) + land.fame(p);
            case MARY: return rateAs(PERSON, p) - land.tax(p);
            case SAILOR: return 2 * rateAs(JOHN, p);
            case TWIN: return rateAs(MARY, p) + p;
            case HEIR: return rateAs(PERSON, p) + land.now.years;
            default: return land.now.wealth[p];
        }
    }

    public int keep(int image) {
        if (!within(image, 0, IMAGES - 1)) {
            return BAD;
        }
        images[image].take(land.now);
        kept[image] = true;
        return land.now.years;
    }

    public int back(int image) {
        if (!within(image, 0, IMAGES - 1)) {
            return BAD;
        }
        if (!kept[image]) {
            return STATE;
        }
        land.now.take(images[image]);
        past.size = 0;
        return land.now.years;
    }

    public int count(int what) {
        switch (what) {
            case 0: return land.nameCount;
            case 1: return land.people;
            case 2: return told.size;
            case 3: return records.size;
            case 4: return text.length;
            default: return BAD;
        }
    }

    public long trace() {
        return trace;
    }

    // ---- numbers

    private static boolean within(int number, int low, int high) {
        return number >= low && number <= high;
    }

    private static int bit(int set, int place) {
        return (set >> place) & 1;
    }

    /** What a number of a fraction is, once the fraction is in least terms. */
    private static int inLeastTerms(int number, int other) {
        int divisor = commonDivisor(number, other);
        return divisor < 1 ? number : number / divisor;
    }

    private static int commonDivisor(int one, int other) {
        int a = one;
        int b = other;
        // Each two rounds halve the numbers, so 64 rounds are enough for any int.
        for (int round = 0; round < 64 && b != 0; round++) {
            int rest = a % b;
            a = b;
            b = rest;
        }
        return a;
    }

    private static int power(int base, int exponent) {
        int product = 1;
        for (int i = 0; i < exponent; i++) {
            product *= base;
        }
        return product;
    }

    private static int choices(int n, int some) {
        int ways = 1;
        for (int i = 1; i <= some; i++) {
            ways = ways * (n - some + i) / i;
        }
        return ways;
    }

    /** THE TEXT. */
    private static final class Text {
        final int[] letters = new int[MOST_LETTERS];
        int length = 0;
    }

    /** What IMAGES keep and undo() brings again. */
    private static final class Now {
        final int[] names = new int[MOST_PEOPLE];
        final int[] wealth = new int[MOST_PEOPLE];
        final int[] deeds = new int[MOST_PEOPLE];
        int hurt = 0;
        int laws = ALL_LAWS;
        int chest = 0;
        int years = 0;

        void take(Now other) {
            System.arraycopy(other.names, 0, names, 0, MOST_PEOPLE);
            System.arraycopy(other.wealth, 0, wealth, 0, MOST_PEOPLE);
            System.arraycopy(other.deeds, 0, deeds, 0, MOST_PEOPLE);
            hurt = other.hurt;
            laws = other.laws;
            chest = other.chest;
            years = other.years;
        }
    }

    /** What was NOW ahead of the latest things done; the rows go round, so the oldest is lost. */
    private static final class Past {
        final Now[] rows = new Now[MOST_UNDONE];
        int next = 0;
        int size = 0;

        Past() {
            for (int i = 0; i < MOST_UNDONE; i++) {
                rows[i] = new Now();
            }
        }

        void remember(Now now) {
            rows[next].take(now);
            next = (next + 1) % MOST_UNDONE;
            size = Math.min(MOST_UNDONE, size + 1);
        }

        void recall(Now now) {
            next = (next + MOST_UNDONE - 1) % MOST_UNDONE;
            now.take(rows[next]);
            size--;
        }
    }

    /** What is said to have been so, of PEOPLE or of BILLS: a bit of each and whether it was set. */
    private static final class Claims {
        final int[] subjects = new int[MOST_CLAIMS];
        final int[] answers = new int[MOST_CLAIMS];
        int size = 0;

        int add(int subject, int answer) {
            if (size >= MOST_CLAIMS) {
                return FULL;
            }
            subjects[size] = subject;
            answers[size] = answer;
            size++;
            return size;
        }

        boolean agree(int bits) {
            for (int i = 0; i < size; i++) {
                if (bit(bits, subjects[i]) != answers[i]) {
                    return false;
                }
            }
            return true;
        }
    }

    /** NAMES, PEOPLE and QUARRELS, and how things are NOW. */
    private static final class Land {
        final int[] favours = new int[MOST_PEOPLE];
        final int[] foes = new int[MOST_PEOPLE];
        private final int[] due = new int[MOST_PEOPLE];
        final Now now = new Now();
        int nameCount = MOST_NAMES;
        int people = 0;

        void empty() {
            nameCount = MOST_NAMES;
            people = 0;
            now.hurt = 0;
            now.laws = ALL_LAWS;
            now.chest = 0;
            now.years = 0;
        }

        void take(Land other) {
            System.arraycopy(other.favours, 0, favours, 0, MOST_PEOPLE);
            System.arraycopy(other.foes, 0, foes, 0, MOST_PEOPLE);
            now.take(other.now);
            nameCount = other.nameCount;
            people = other.people;
        }

        void addPerson(int name, int wealth, int bills) {
            if (people >= MOST_PEOPLE) {
                return;
            }
            now.names[people] = name;
            now.wealth[people] = wealth;
            now.deeds[people] = 0;
            favours[people] = bills;
            foes[people] = 0;
            people++;
        }

        boolean hasPerson(int p) {
            return within(p, 0, people - 1);
        }

        boolean hasName(int k) {
            return within(k, 0, nameCount - 1);
        }

        boolean quarrel(int p, int q) {
            return bit(foes[p], q) == 1;
        }

        int bearers(int k) {
            int bearers = 0;
            for (int p = 0; p < people; p++) {
                if (now.names[p] == k) {
                    bearers |= 1 << p;
                }
            }
            return bearers;
        }

        int wealthOf(int group) {
            int wealth = 0;
            for (int p = 0; p < people; p++) {
                wealth += bit(group, p) * now.wealth[p];
            }
            return wealth;
        }

        int limping() {
            return limpingIf(now.hurt, now.laws);
        }

        int limpingIf(int hurt, int laws) {
            if ((laws & LAW_HURTS) == 0) {
                return hurt;
            }
            int limping = 0;
            for (int k = 0; k < nameCount; k++) {
                int bearers = bearers(k);
                if ((bearers & hurt) != 0) {
                    limping |= bearers;
                }
            }
            return limping;
        }

        int fame(int p) {
            if ((now.laws & LAW_DEEDS) == 0) {
                return now.deeds[p];
            }
            int fame = 0;
            for (int q = 0; q < people; q++) {
                if (now.names[q] == now.names[p]) {
                    fame += now.deeds[q];
                }
            }
            return fame;
        }

        int tax(int p) {
            return taxIfNamed(p, now.names[p]);
        }

        int taxIfNamed(int p, int k) {
            if ((now.laws & LAW_TAX) == 0) {
                return now.wealth[p] / 10;
            }
            int bearers = bearers(k) | (1 << p);
            int heads = Math.max(1, Integer.bitCount(bearers));
            return wealthOf(bearers) / heads / 10;
        }

        /** All TAX is reckoned ahead of all paying, as by LAW 4 one's paying would change another's TAX. */
        int payTax() {
            for (int p = 0; p < people; p++) {
                due[p] = Math.min(tax(p), now.wealth[p]);
            }
            int paid = 0;
            for (int p = 0; p < people; p++) {
                now.wealth[p] -= due[p];
                paid += due[p];
            }
            now.chest = Math.min(MOST_CHEST, now.chest + paid);
            now.years++;
            return paid;
        }

        int cheapestName(int p) {
            int cheapest = 0;
            for (int k = 1; k < nameCount; k++) {
                if (taxIfNamed(p, k) < taxIfNamed(p, cheapest)) {
                    cheapest = k;
                }
            }
            return cheapest;
        }

        int restless() {
            int restless = 0;
            for (int p = 0; p < people; p++) {
                if (taxIfNamed(p, cheapestName(p)) < tax(p)) {
                    restless |= 1 << p;
                }
            }
            return restless;
        }

        int alone() {
            int alone = 0;
            for (int k = 0; k < nameCount; k++) {
                int bearers = bearers(k);
                if (Integer.bitCount(bearers) == 1) {
                    alone |= bearers;
                }
            }
            return alone;
        }

        int badOnes() {
            int twos = 0;
            for (int p = 0; p < people; p++) {
                for (int q = p + 1; q < people; q++) {
                    if (quarrel(p, q) && now.names[p] == now.names[q]) {
                        twos++;
                    }
                }
            }
            return twos;
        }

        /** PEOPLE who are FOR a BILL (side 1), or are not (side 0). */
        private int sayers(int b, int side) {
            int sayers = 0;
            for (int p = 0; p < people; p++) {
                if (bit(favours[p], b) == side) {
                    sayers |= 1 << p;
                }
            }
            return sayers;
        }

        /** How much some say against the others, without those of one NAME (NONE: with all). */
        private int votes(int sayers, int others, int laws, int without) {
            int votes = 0;
            for (int k = 0; k < nameCount; k++) {
                if (k != without) {
                    int bearers = bearers(k);
                    int some = Integer.bitCount(bearers & sayers);
                    int against = Integer.bitCount(bearers & others);
                    boolean asOne = (laws & LAW_VOTES) != 0;
                    votes += asOne ? (some > against ? 1 : 0) : some;
                }
            }
            return votes;
        }

        int yes(int b, int laws, int without) {
            return votes(sayers(b, 1), sayers(b, 0), laws, without);
        }

        int no(int b, int laws, int without) {
            return votes(sayers(b, 0), sayers(b, 1), laws, without);
        }

        boolean passes(int b, int laws, int without) {
            return yes(b, laws, without) > no(b, laws, without);
        }

        int passing(int laws) {
            int passing = 0;
            for (int b = 0; b < BILLS; b++) {
                if (passes(b, laws, NONE)) {
                    passing |= 1 << b;
                }
            }
            return passing;
        }

        int sway(int b) {
            boolean passes = passes(b, now.laws, NONE);
            int sway = 0;
            for (int k = 0; k < nameCount; k++) {
                if (passes(b, now.laws, k) != passes) {
                    sway |= 1 << k;
                }
            }
            return sway;
        }
    }

    /** APART. Ways are tried first to last, so that of several best the first is kept. */
    private static final class Renaming {
        final int[] way = new int[MOST_PEOPLE];
        final int[] best = new int[MOST_PEOPLE];
        int fewest = 0;

        void search(Land land) {
            fewest = MOST_PEOPLE + 1;
            nameFrom(land, 0, 0);
        }

        boolean found() {
            return fewest <= MOST_PEOPLE;
        }

        /** A way that renames no fewer than the best one can't be kept, so it is left at once. */
        private void nameFrom(Land land, int p, int renamed) {
            if (renamed >= fewest) {
                return;
            }
            if (p >= land.people) {
                fewest = renamed;
                System.arraycopy(way, 0, best, 0, MOST_PEOPLE);
                return;
            }
            for (int k = 0; k < land.nameCount; k++) {
                if (isFree(land, p, k)) {
                    way[p] = k;
                    nameFrom(land, p + 1, k == land.now.names[p] ? renamed : renamed + 1);
                }
            }
        }

        private boolean isFree(Land land, int p, int k) {
            for (int q = 0; q < p; q++) {
                if (way[q] == k && land.quarrel(p, q)) {
                    return false;
                }
            }
            return true;
        }
    }

    /** MARRIED. Ways are tried first to last (alone last), so that of several best the first is kept. */
    private static final class Wedding {
        final int[] way = new int[MOST_PEOPLE];
        final int[] best = new int[MOST_PEOPLE];
        int most = 0;

        void search(Land land) {
            for (int p = 0; p < MOST_PEOPLE; p++) {
                way[p] = NONE;
            }
            most = -1;
            pairFrom(land, 0, 0);
        }

        /** From p on, each two needs two: a way that can't come beyond the best one is left at once. */
        private void pairFrom(Land land, int p, int twos) {
            if (twos + (land.people - p) / 2 <= most) {
                return;
            }
            if (p >= land.people) {
                most = twos;
                System.arraycopy(way, 0, best, 0, MOST_PEOPLE);
                return;
            }
            if (way[p] != NONE) {
                pairFrom(land, p + 1, twos);
                return;
            }
            for (int q = p + 1; q < land.people; q++) {
                if (way[q] == NONE && mayMarry(land, p, q)) {
                    way[p] = q;
                    way[q] = p;
                    pairFrom(land, p + 1, twos + 1);
                    way[p] = NONE;
                    way[q] = NONE;
                }
            }
            pairFrom(land, p + 1, twos);
        }

        private static boolean mayMarry(Land land, int p, int q) {
            return land.now.names[p] != land.now.names[q] && !land.quarrel(p, q);
        }
    }

    /**
     * Reads THE TEXT into a draft, so that a FAULT changes nothing.
     * A step that fails leaves the TOKEN at fault as the latest one, whose start is the FAULT.
     */
    private static final class Reader {
        private static final int NUMBER = 256, END = 257, WRONG = 258;

        final Land draft = new Land();
        private int place = 0;
        private int start = 0;
        private int token = END;
        private int value = 0;
        private boolean lawsTold = false;

        /** How many ITEMS; -10 less FAULT. */
        int read(Text text) {
            draft.empty();
            place = 0;
            lawsTold = false;
            int items = 0;
            nextToken(text);
            while (token != END && items < MOST_LETTERS) {
                if (!readItem(text, items)) {
                    return -10 - start;
                }
                items++;
                nextToken(text);
            }
            return items;
        }

        private boolean readItem(Text text, int ahead) {
            switch (token) {
                case 'n': return ahead == 0 && readNames(text) && isEnded(text);
                case 'p': return draft.people < MOST_PEOPLE && readPerson(text) && isEnded(text);
                case 'q': return readQuarrel(text) && isEnded(text);
                case 'l': return !lawsTold && readLaws(text) && isEnded(text);
                default: return false;
            }
        }

        private boolean readNames(Text text) {
            if (!readNumber(text, 1, MOST_NAMES)) {
                return false;
            }
            draft.nameCount = value;
            return true;
        }

        private boolean readPerson(Text text) {
            if (!readNumber(text, 0, draft.nameCount - 1)) {
                return false;
            }
            int name = value;
            if (!readNumber(text, 0, MOST_TOLD_WEALTH)) {
                return false;
            }
            int wealth = value;
            if (!readNumber(text, 0, (1 << BILLS) - 1)) {
                return false;
            }
            draft.addPerson(name, wealth, value);
            return true;
        }

        private boolean readQuarrel(Text text) {
            if (!readNumber(text, 0, draft.people - 1)) {
                return false;
            }
            int one = value;
            if (!readNumber(text, 0, draft.people - 1) || value == one) {
                return false;
            }
            draft.foes[one] |= 1 << value;
            draft.foes[value] |= 1 << one;
            return true;
        }

        private boolean readLaws(Text text) {
            if (!readNumber(text, 0, ALL_LAWS)) {
                return false;
            }
            draft.now.laws = value;
            lawsTold = true;
            return true;
        }

        private boolean readNumber(Text text, int low, int high) {
            nextToken(text);
            return token == NUMBER && within(value, low, high);
        }

        private boolean isEnded(Text text) {
            nextToken(text);
            return token == ';';
        }

        private void nextToken(Text text) {
            while (place < text.length && text.letters[place] == ' ') {
                place++;
            }
            start = place;
            if (place >= text.length) {
                token = END;
            } else if (isDigit(text.letters[place])) {
                takeNumber(text);
            } else {
                token = text.letters[place];
                place++;
            }
        }

        /** A NUMBER of three digits or more is above 99 or has a 0 ahead. */
        private void takeNumber(Text text) {
            value = 0;
            while (place < text.length && isDigit(text.letters[place])) {
                value = value * 10 + text.letters[place] - '0';
                place++;
            }
            int digits = place - start;
            boolean zeroAhead = digits > 1 && text.letters[start] == '0';
            token = digits > 2 || zeroAhead ? WRONG : NUMBER;
        }

        private static boolean isDigit(int letter) {
            return letter >= '0' && letter <= '9';
        }
    }
}
