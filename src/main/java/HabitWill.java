import java.util.Arrays;

/** Habits that descend by a will: what DOC.md promises, in the Java that LANGUAGE.md leaves. */
public final class HabitWill {
    public static final int NONE = -1, BAD = -2, NOT = -3, FULL = -4;

    private static final int TEXTS = 3, LONGEST_TEXT = 59;
    private static final int MOST_HABITS = 8, MOST_HEIRS = 6, MOST_CLAUSES = 15;
    private static final int MOST_REFUSALS = 12, MOST_SEEN = 8, MOST_LOTS = 20;
    private static final int DAY_HOURS = 24, WEEK = 7;
    private static final int SHEETS = 4, FORMS = 3, MOST_ITEMS = 60;
    private static final int NULL = 1, INDEX = 2, CAST = 3, STORE = 4, SIZE = 5;
    private static final int NOBODY_BIT = 1 << 6;
    private static final int LEAST_INT = -2147483648;
    private static final long LEAST_LONG = -9223372036854775807L - 1L;

    private final Estate estate = new Estate();
    private final Week week = new Week();
    private final Sightings sightings = new Sightings();
    private final Plan plan = new Plan();
    private final Sheet[] sheets = new Sheet[SHEETS];
    private int latestFinding = 0;

    public HabitWill() {
        for (int s = 0; s < SHEETS && s < sheets.length; s++) {
            sheets[s] = new Sheet();
        }
    }

    // ---- habits, heirs, the will

    public int type(int text, int b) {
        if (!isBelow(text, TEXTS) || !isBelow(b, 256)) {
            return BAD;
        }
        Listing listing = listingOf(text);
        if (!listing.append(b)) {
            return FULL;
        }
        plan.known = false;
        return listing.length;
    }

    public int wipe(int text) {
        if (!isBelow(text, TEXTS)) {
            return BAD;
        }
        Listing listing = listingOf(text);
        int had = listing.length;
        listing.cutTo(0);
        plan.known = false;
        return had;
    }

    public int undo(int text) {
        if (!isBelow(text, TEXTS)) {
            return BAD;
        }
        Listing listing = listingOf(text);
        if (listing.length == 0) {
            return NOT;
        }
        listing.cutTo(listing.length - 1);
        plan.known = false;
        return listing.length;
    }

    public int fault(int text) {
        return isBelow(text, TEXTS) ? listingOf(text).wrong : BAD;
    }

    public int habit(int habit, int what) {
        Habits habits = estate.law.habits;
        if (!habits.hasRow(habit) || !isBelow(habit, MOST_HABITS)) {
            return BAD;
        }
        switch (what) {
            case 0: return habits.hour[habit];
            case 1: return habits.span[habit];
            case 2: return habits.worth[habit];
            case 3: return habits.leansOn[habit];
            case 4: return habits.vice[habit];
            default: return BAD;
        }
    }

    public int heir(int heir, int what) {
        Heirs heirs = estate.law.heirs;
        if (!heirs.hasRow(heir) || !isBelow(heir, MOST_HEIRS)) {
            return BAD;
        }
        switch (what) {
            case 0: return heirs.room[heir];
            case 1: return heirs.from[heir];
            case 2: return heirs.till[heir];
            default: return BAD;
        }
    }

    public int clause(int clause, int what) {
        Clauses clauses = estate.clauses;
        if (!clauses.hasRow(clause) || !isBelow(clause, MOST_CLAUSES)) {
            return BAD;
        }
        switch (what) {
            case 0: return clauses.ofHabit[clause];
            case 1: return clauses.comes[clause];
            case 2: return clauses.ofHeir[clause];
            case 3: return clauses.asksFor[clause];
            default: return BAD;
        }
    }

    public int refuse(int heir, int habit) {
        if (!isBelow(heir, MOST_HEIRS) || !isBelow(habit, MOST_HABITS)) {
            return BAD;
        }
        return estate.refusals.add(heir, habit) ? estate.refusals.size : FULL;
    }

    public int back() {
        return estate.refusals.dropLast() ? estate.refusals.size : NOT;
    }

    public int value(int heir, int day, int v) {
        if (!isBelow(heir, MOST_HEIRS) || !isBelow(day, WEEK) || !isBelow(v, 10)) {
            return BAD;
        }
        return week.change(heir, day, v);
    }

    // ---- by the will

    public int with(int habit) {
        if (!estate.law.habits.hasRow(habit)) {
            return BAD;
        }
        estate.settle();
        return estate.ownerOf(habit);
    }

    public int has(int heir, int what) {
        Law law = estate.law;
        if (!law.heirs.hasRow(heir)) {
            return BAD;
        }
        estate.settle();
        int bits = estate.bitsOf(heir);
        switch (what) {
            case 0: return bits;
            case 1: return law.cannotBits(heir, bits);
            case 2: return law.worthOf(bits);
            case 3: return law.canLive(heir, bits) ? 1 : 0;
            default: return BAD;
        }
    }

    public int does(int heir, int hour) {
        if (!estate.law.heirs.hasRow(heir) || !isBelow(hour, DAY_HOURS)) {
            return BAD;
        }
        estate.settle();
        return estate.doingOf(heir, hour);
    }

    public int done() {
        estate.settle();
        return estate.movedBits;
    }

    public int quarrel(int what) {
        if (!isBelow(what, 4)) {
            return BAD;
        }
        estate.settle();
        Law law = estate.law;
        for (int hour = 0; hour < DAY_HOURS; hour++) {
            for (int heir = 0; heir < law.heirs.size; heir++) {
                int bits = law.bitsAt(estate.bitsOf(heir), hour);
                if (Integer.bitCount(bits) >= 2) {
                    return partOfQuarrel(what, hour, heir, bits);
                }
            }
        }
        return NONE;
    }

    // ---- plans

    public int best(int i) {
        if (i != NONE && !isBelow(i, Plan.HABITS)) {
            return BAD;
        }
        plan.find(estate.law);
        return i == NONE ? plan.most : plan.keeperOf(i);
    }

    public int write(int heir, int what) {
        if (!estate.law.heirs.hasRow(heir) || !isBelow(what, 2)) {
            return BAD;
        }
        int bits = estate.fewestRefusals(heir);
        return what == 1 || bits == NONE ? bits : Integer.bitCount(bits);
    }

    public int part(int a, int b, int what) {
        if (!isBelow(a, MOST_HEIRS) || !isBelow(b, MOST_HEIRS) || a == b || !isBelow(what, 2)) {
            return BAD;
        }
        int bits = week.divide(a, b);
        return what == 0 || bits == NONE ? bits : week.bothHave(a, b, bits);
    }

    // ---- seen, marches, wills

    public int seen(int hour, int heir, int habit) {
        if (!Sightings.mayBe(hour, heir, habit)) {
            return BAD;
        }
        return sightings.add(hour, heir, habit) ? sightings.size : FULL;
    }

    public int forget() {
        int had = sightings.size;
        sightings.size = 0;
        return had;
    }

    public int read(int s) {
        if (!isBelow(s, SHEETS)) {
            return BAD;
        }
        Sheet sheet = sheets[s];
        if (sheet.isLost()) {
            return found(NULL);
        }
        return sightings.addFrom(sheet);
    }

    public int whose(int habit) {
        return estate.law.habits.hasRow(habit) ? possibleOwners(habit) : BAD;
    }

    public int look(int habit, int heir) {
        Law law = estate.law;
        if (!law.habits.hasRow(habit) || !law.heirs.hasRow(heir)) {
            return BAD;
        }
        int owners = possibleOwners(habit);
        int without = estate.bitsOf(heir) & ~(1 << habit);
        int including = without | 1 << habit;
        int mayWithout = without & ~law.cannotBits(heir, without);
        int mayWith = including & ~law.cannotBits(heir, including);
        // What he does hangs on his own habits alone, so those by whom it may be part in two groups at most.
        int himself = hasBit(owners, heir) ? 1 : 0;
        int others = Integer.bitCount(owners) - himself;
        int least = himself + others;
        int first = 0;
        for (int hour = 0; hour < DAY_HOURS; hour++) {
            boolean alike = law.choiceOf(mayWith, hour) == law.choiceOf(mayWithout, hour);
            int greatest = alike ? himself + others : Math.max(himself, others);
            if (greatest < least) {
                least = greatest;
                first = hour;
            }
        }
        return first;
    }

    public long march(int c, int heir, int left, int what) {
        if (!isBelow(c, 17) || !estate.law.heirs.hasRow(heir) || !isBelow(left, 9) || !isBelow(what, 2)) {
            return LEAST_LONG - BAD;
        }
        estate.settle();
        int vices = Integer.bitCount(estate.law.viceBits(estate.bitsOf(heir)));
        return chanceLeft(c, vices, left, what);
    }

    public int wills(int seed, int n, int heir) {
        Law law = estate.law;
        if (n < 1 || n > MOST_LOTS || !law.heirs.hasRow(heir) || law.habits.size == 0) {
            return BAD;
        }
        estate.settle();
        estate.addByLots(seed, n);
        return law.worthOf(estate.bitsOf(heir));
    }

    // ---- sheets

    public int sheet(int s, int form, int n) {
        if (!isBelow(s, SHEETS) || !isBelow(form, FORMS) || n > MOST_ITEMS) {
            return BAD;
        }
        if (n < 0) {
            return found(SIZE);
        }
        sheets[s].renew(form, n);
        return n;
    }

    public int lose(int s) {
        if (!isBelow(s, SHEETS)) {
            return BAD;
        }
        Sheet sheet = sheets[s];
        if (sheet.isLost()) {
            return found(NULL);
        }
        int had = sheet.size;
        sheet.size = NONE;
        return had;
    }

    public int lay(int s, int form, int i, int v) {
        if (!isBelow(s, SHEETS) || !isBelow(form, FORMS)) {
            return BAD;
        }
        int finding = sheets[s].findingAt(form, i);
        if (finding != 0) {
            return found(finding);
        }
        sheets[s].put(i, v);
        return 1;
    }

    public int get(int s, int form, int i) {
        if (!isBelow(s, SHEETS) || !isBelow(form, FORMS)) {
            return LEAST_INT;
        }
        int finding = sheets[s].findingAt(form, i);
        if (finding != 0) {
            latestFinding = finding;
            return LEAST_INT;
        }
        return sheets[s].itemAt(i);
    }

    public int copy(int s, int i, int t, int j, int n) {
        if (!isBelow(s, SHEETS) || !isBelow(t, SHEETS)) {
            return BAD;
        }
        Sheet source = sheets[s];
        Sheet target = sheets[t];
        if (source.isLost() || target.isLost()) {
            return found(NULL);
        }
        if (source.form != target.form) {
            return found(STORE);
        }
        if (!source.hasItems(i, n) || !target.hasItems(j, n)) {
            return found(INDEX);
        }
        System.arraycopy(source.items, i, target.items, j, n);
        return 1;
    }

    public int hours(int heir, int s) {
        if (!estate.law.heirs.hasRow(heir) || !isBelow(s, SHEETS)) {
            return BAD;
        }
        Sheet sheet = sheets[s];
        if (sheet.isLost()) {
            return found(NULL);
        }
        estate.settle();
        int n = Math.min(sheet.size, DAY_HOURS);
        for (int hour = 0; hour < n; hour++) {
            sheet.put(hour, estate.doingOf(heir, hour));
        }
        return n;
    }

    public int count(int what) {
        switch (what) {
            case 0: return estate.law.habits.size;
            case 1: return estate.law.heirs.size;
            case 2: return estate.clauses.size;
            case 3: return estate.law.habits.length;
            case 4: return estate.law.heirs.length;
            case 5: return estate.clauses.length;
            case 6: return estate.refusals.size;
            case 7: return sightings.size;
            case 8: return latestFinding;
            default: return BAD;
        }
    }

    public long digest() {
        long h = 17;
        for (int what = 0; what <= 7; what++) {
            h = mix(h, count(what));
        }
        for (int text = 0; text < TEXTS; text++) {
            h = mix(h, fault(text));
        }
        for (int habit = 0; habit < estate.law.habits.size; habit++) {
            h = mixHabit(h, habit);
        }
        for (int heir = 0; heir < estate.law.heirs.size; heir++) {
            h = mixPlansOf(mixHeir(h, heir), heir);
        }
        for (int clause = 0; clause < estate.clauses.size; clause++) {
            for (int what = 0; what <= 3; what++) {
                h = mix(h, clause(clause, what));
            }
        }
        h = mix(h, done());
        for (int what = 0; what <= 3; what++) {
            h = mix(h, quarrel(what));
        }
        return mix(mix(h, best(NONE)), best(0));
    }

    // ---- what the calls lean on

    private static boolean isBelow(int number, int bound) {
        return number >= 0 && number < bound;
    }

    private static boolean hasBit(int bits, int bit) {
        return (bits >> bit & 1) == 1;
    }

    private int found(int finding) {
        latestFinding = finding;
        return -10 - finding;
    }

    private Listing listingOf(int text) {
        switch (text) {
            case 0: return estate.law.habits;
            case 1: return estate.law.heirs;
            default: return estate.clauses;
        }
    }

    private static int partOfQuarrel(int what, int hour, int heir, int bits) {
        switch (what) {
            case 0: return hour;
            case 1: return heir;
            case 2: return leastOf(bits);
            default: return leastOf(bits & bits - 1);
        }
    }

    private static int leastOf(int bits) {
        for (int bit = 0; bit < MOST_HABITS; bit++) {
            if (hasBit(bits, bit)) {
                return bit;
            }
        }
        return NONE;
    }

    private int possibleOwners(int habit) {
        estate.settle();
        int bits = 0;
        for (int heir = 0; heir < estate.law.heirs.size; heir++) {
            estate.give(habit, heir);
            if (sightings.allComeOut(estate)) {
                bits |= 1 << heir;
            }
        }
        estate.give(habit, NONE);
        return sightings.allComeOut(estate) ? bits | NOBODY_BIT : bits;
    }

    /** Below is a power of two, so halving both brings it to lowest terms. */
    private static long chanceLeft(int c, int vices, int left, int what) {
        long above = choices(vices, left) * power(16 - c, left) * power(c, vices - left);
        long below = power(16, vices);
        for (int halving = 0; halving < 4 * vices && (above & 1L) == 0L; halving++) {
            above >>= 1;
            below >>= 1;
        }
        return what == 0 ? above : below;
    }

    private static long choices(int of, int chosen) {
        long ways = 1;
        for (int i = 0; i < chosen; i++) {
            ways = ways * (of - i) / (i + 1);
        }
        return ways;
    }

    private static long power(int base, int times) {
        long product = 1;
        for (int i = 0; i < times; i++) {
            product *= base;
        }
        return product;
    }

    private static long mix(long h, long next) {
        return 31L * h + next;
    }

    private long mixHabit(long start, int habit) {
        long h = start;
        for (int what = 0; what <= 4; what++) {
            h = mix(h, habit(habit, what));
        }
        h = mix(h, with(habit));
        h = mix(h, whose(habit));
        return mix(h, look(habit, 0));
    }

    private long mixHeir(long start, int heir) {
        long h = start;
        for (int what = 0; what <= 2; what++) {
            h = mix(h, heir(heir, what));
        }
        for (int what = 0; what <= 3; what++) {
            h = mix(h, has(heir, what));
        }
        h = mix(h, does(heir, 0));
        h = mix(h, does(heir, 7));
        return mix(h, does(heir, 20));
    }

    private long mixPlansOf(long start, int heir) {
        long h = start;
        h = mix(h, write(heir, 0));
        h = mix(h, write(heir, 1));
        h = mix(h, part(0, heir, 0));
        h = mix(h, part(0, heir, 1));
        h = mix(h, march(5, heir, 1, 0));
        h = mix(h, march(5, heir, 1, 1));
        return mix(h, wills(7, 9, heir));
    }

    /** A text and the rows that it tells, with ; between them. */
    private abstract static class Listing {
        final int[] bytes = new int[LONGEST_TEXT];
        final int mostBytes;
        final int mostRows;
        int length = 0;
        int size = 0;
        int wrong = NONE;

        Listing(int mostBytes, int mostRows) {
            this.mostBytes = mostBytes;
            this.mostRows = mostRows;
        }

        /** The place behind the row, or, if it cannot be, ~ the place of the first byte that is wrong. */
        abstract int readRow(int place, int row);

        final boolean hasRow(int row) {
            return row >= 0 && row < size;
        }

        final boolean append(int b) {
            if (length >= mostBytes || !isBelow(length, bytes.length)) {
                return false;
            }
            bytes[length] = b;
            length++;
            readRows();
            return true;
        }

        final void cutTo(int newLength) {
            length = newLength;
            readRows();
        }

        final int signAt(int place) {
            return isBelow(place, length) && place < bytes.length ? bytes[place] : NONE;
        }

        final boolean isBetween(int place, int low, int high) {
            int sign = signAt(place);
            return sign >= low && sign <= high;
        }

        /** A text with a fault tells no rows at all, so size is set only at its good end. */
        private void readRows() {
            size = 0;
            wrong = NONE;
            if (length == 0) {
                return;
            }
            int place = 0;
            for (int row = 0; row < mostRows; row++) {
                int next = readRow(place, row);
                if (next < 0) {
                    wrong = ~next;
                    return;
                }
                if (next >= length) {
                    size = row + 1;
                    return;
                }
                if (signAt(next) != ';') {
                    wrong = next;
                    return;
                }
                place = next + 1;
            }
            wrong = place;
        }
    }

    private static final class Habits extends Listing {
        final int[] hour = new int[MOST_HABITS];
        final int[] span = new int[MOST_HABITS];
        final int[] worth = new int[MOST_HABITS];
        final int[] leansOn = new int[MOST_HABITS];
        final int[] vice = new int[MOST_HABITS];
        final int[] hourBits = new int[MOST_HABITS];

        Habits() {
            super(47, MOST_HABITS);
        }

        int readRow(int place, int row) {
            if (!isBelow(row, MOST_HABITS) || !isBetween(place, 'a', 'x')) {
                return ~place;
            }
            if (!isBetween(place + 1, '1', '9')) {
                return ~(place + 1);
            }
            if (!isBetween(place + 2, '0', '9')) {
                return ~(place + 2);
            }
            boolean leans = isBetween(place + 3, '0', '7');
            if (!leans && signAt(place + 3) != '.') {
                return ~(place + 3);
            }
            boolean isVice = signAt(place + 4) == '!';
            if (!isVice && signAt(place + 4) != '.') {
                return ~(place + 4);
            }
            hour[row] = signAt(place) - 'a';
            span[row] = signAt(place + 1) - '0';
            worth[row] = signAt(place + 2) - '0';
            leansOn[row] = leans ? signAt(place + 3) - '0' : NONE;
            vice[row] = isVice ? 1 : 0;
            hourBits[row] = bitsOfHours(hour[row], span[row]);
            return place + 5;
        }

        /** So many hours from one on, past midnight too, as bits. */
        static int bitsOfHours(int from, int howMany) {
            int bits = 0;
            for (int i = 0; i < howMany && i < DAY_HOURS; i++) {
                bits |= 1 << (from + i) % DAY_HOURS;
            }
            return bits;
        }
    }

    private static final class Heirs extends Listing {
        final int[] room = new int[MOST_HEIRS];
        final int[] from = new int[MOST_HEIRS];
        final int[] till = new int[MOST_HEIRS];
        final int[] awayBits = new int[MOST_HEIRS];

        Heirs() {
            super(23, MOST_HEIRS);
        }

        int readRow(int place, int row) {
            if (!isBelow(row, MOST_HEIRS) || !isBetween(place, '1', '8')) {
                return ~place;
            }
            if (!isBetween(place + 1, 'a', 'x')) {
                return ~(place + 1);
            }
            if (!isBetween(place + 2, 'a', 'x')) {
                return ~(place + 2);
            }
            room[row] = signAt(place) - '0';
            from[row] = signAt(place + 1) - 'a';
            till[row] = signAt(place + 2) - 'a';
            int away = (till[row] - from[row] + DAY_HOURS) % DAY_HOURS;
            awayBits[row] = Habits.bitsOfHours(from[row], away);
            return place + 3;
        }
    }

    private static final class Clauses extends Listing {
        final int[] ofHabit = new int[MOST_CLAUSES];
        final int[] comes = new int[MOST_CLAUSES];
        final int[] ofHeir = new int[MOST_CLAUSES];
        final int[] asksFor = new int[MOST_CLAUSES];

        Clauses() {
            super(59, MOST_CLAUSES);
        }

        int readRow(int place, int row) {
            if (!isBelow(row, MOST_CLAUSES) || !isBetween(place, '0', '7')) {
                return ~place;
            }
            boolean plus = signAt(place + 1) == '+';
            if (!plus && signAt(place + 1) != '-') {
                return ~(place + 1);
            }
            if (!isBetween(place + 2, '0', '5')) {
                return ~(place + 2);
            }
            boolean asks = signAt(place + 3) == '?';
            if (asks && !isBetween(place + 4, '0', '7')) {
                return ~(place + 4);
            }
            ofHabit[row] = signAt(place) - '0';
            comes[row] = plus ? 1 : 0;
            ofHeir[row] = signAt(place + 2) - '0';
            asksFor[row] = asks ? signAt(place + 4) - '0' : NONE;
            return asks ? place + 5 : place + 3;
        }
    }

    /** What an heir may have and does, of habits given as bits. */
    private static final class Law {
        final Habits habits = new Habits();
        final Heirs heirs = new Heirs();

        int awayBitsOf(int heir) {
            return heir >= 0 && heir < heirs.size && heir < MOST_HEIRS ? heirs.awayBits[heir] : 0;
        }

        int roomOf(int heir) {
            return heir >= 0 && heir < heirs.size && heir < MOST_HEIRS ? heirs.room[heir] : 0;
        }

        int cannotBits(int heir, int bits) {
            int away = awayBitsOf(heir);
            int cannot = 0;
            for (int habit = 0; habit < habits.size && habit < MOST_HABITS; habit++) {
                int lean = habits.leansOn[habit];
                boolean leansInVain = lean != NONE && !hasBit(bits, lean);
                boolean isAway = (habits.hourBits[habit] & away) != 0;
                if (hasBit(bits, habit) && (leansInVain || isAway)) {
                    cannot |= 1 << habit;
                }
            }
            return cannot;
        }

        boolean canLive(int heir, int bits) {
            return Integer.bitCount(bits) <= roomOf(heir) && cannotBits(heir, bits) == 0 && !barEachOther(bits);
        }

        boolean barEachOther(int bits) {
            int taken = 0;
            for (int habit = 0; habit < habits.size && habit < MOST_HABITS; habit++) {
                if (hasBit(bits, habit)) {
                    if ((taken & habits.hourBits[habit]) != 0) {
                        return true;
                    }
                    taken |= habits.hourBits[habit];
                }
            }
            return false;
        }

        int worthOf(int bits) {
            int worth = 0;
            for (int habit = 0; habit < habits.size && habit < MOST_HABITS; habit++) {
                if (hasBit(bits, habit)) {
                    worth += habits.worth[habit];
                }
            }
            return worth;
        }

        int viceBits(int bits) {
            int vices = 0;
            for (int habit = 0; habit < habits.size && habit < MOST_HABITS; habit++) {
                if (hasBit(bits, habit) && habits.vice[habit] == 1) {
                    vices |= 1 << habit;
                }
            }
            return vices;
        }

        int bitsAt(int bits, int hour) {
            int at = 0;
            for (int habit = 0; habit < habits.size && habit < MOST_HABITS; habit++) {
                if (hasBit(bits, habit) && hasBit(habits.hourBits[habit], hour)) {
                    at |= 1 << habit;
                }
            }
            return at;
        }

        /** Of habits that he may have, the one that he does in that hour. */
        int choiceOf(int may, int hour) {
            int chosen = NONE;
            int greatest = NONE;
            for (int habit = 0; habit < habits.size && habit < MOST_HABITS; habit++) {
                boolean isAt = hasBit(may, habit) && hasBit(habits.hourBits[habit], hour);
                if (isAt && habits.worth[habit] > greatest) {
                    greatest = habits.worth[habit];
                    chosen = habit;
                }
            }
            return chosen;
        }
    }

    private static final class Refusals {
        final int[] byHeir = new int[MOST_REFUSALS];
        final int[] ofHabit = new int[MOST_REFUSALS];
        int size = 0;

        boolean add(int heir, int habit) {
            if (!isBelow(size, MOST_REFUSALS)) {
                return false;
            }
            byHeir[size] = heir;
            ofHabit[size] = habit;
            size++;
            return true;
        }

        boolean dropLast() {
            if (size <= 0) {
                return false;
            }
            size--;
            return true;
        }

        int bitsBy(int heir) {
            int bits = 0;
            for (int i = 0; i < size && i < MOST_REFUSALS; i++) {
                if (byHeir[i] == heir) {
                    bits |= 1 << ofHabit[i];
                }
            }
            return bits;
        }
    }

    /** With whom each habit is, by the will as it is carried out anew for each call. */
    private static final class Estate {
        final Law law = new Law();
        final Clauses clauses = new Clauses();
        final Refusals refusals = new Refusals();
        final int[] owner = new int[MOST_HABITS];
        final int[] refused = new int[MOST_HEIRS];
        int movedBits = 0;

        void settle() {
            settleRefusing(NONE, 0);
        }

        void settleRefusing(int writer, int more) {
            for (int heir = 0; heir < MOST_HEIRS; heir++) {
                refused[heir] = refusals.bitsBy(heir) | (heir == writer ? more : 0);
            }
            Arrays.fill(owner, NONE);
            movedBits = 0;
            for (int c = 0; c < clauses.size && c < MOST_CLAUSES; c++) {
                int asked = clauses.asksFor[c];
                boolean holds = asked == NONE || ownerOf(asked) != NONE;
                if (holds && carryOut(clauses.ofHabit[c], clauses.comes[c] == 1, clauses.ofHeir[c])) {
                    movedBits |= 1 << c;
                }
            }
        }

        /** Whether the habit is with another one than ahead. */
        private boolean carryOut(int habit, boolean comes, int heir) {
            if (!law.habits.hasRow(habit) || !law.heirs.hasRow(heir) || !isBelow(heir, MOST_HEIRS)) {
                return false;
            }
            boolean isHis = ownerOf(habit) == heir;
            if (comes == isHis || comes && hasBit(refused[heir], habit)) {
                return false;
            }
            give(habit, comes ? heir : NONE);
            return true;
        }

        void give(int habit, int heir) {
            if (habit >= 0 && habit < MOST_HABITS) {
                owner[habit] = heir;
            }
        }

        int ownerOf(int habit) {
            return habit >= 0 && habit < MOST_HABITS ? owner[habit] : NONE;
        }

        int bitsOf(int heir) {
            int bits = 0;
            for (int habit = 0; habit < law.habits.size && habit < MOST_HABITS; habit++) {
                if (owner[habit] == heir) {
                    bits |= 1 << habit;
                }
            }
            return bits;
        }

        int doingOf(int heir, int hour) {
            int bits = bitsOf(heir);
            return law.choiceOf(bits & ~law.cannotBits(heir, bits), hour);
        }

        /** Sets are tried from the least bits on, so the first of a number is the least of it. */
        int fewestRefusals(int heir) {
            int fewest = NONE;
            int sets = 1 << Math.min(law.habits.size, MOST_HABITS);
            for (int more = 0; more < sets; more++) {
                if (fewest != NONE && Integer.bitCount(more) >= Integer.bitCount(fewest)) {
                    continue;
                }
                settleRefusing(heir, more);
                if (law.canLive(heir, bitsOf(heir))) {
                    fewest = more;
                }
            }
            return fewest;
        }

        void addByLots(int seed, int howMany) {
            int lots = seed;
            for (int i = 0; i < howMany && i < MOST_LOTS; i++) {
                lots = nextSeed(lots);
                int habit = lotOf(lots, law.habits.size);
                lots = nextSeed(lots);
                boolean comes = lotOf(lots, 2) == 0;
                lots = nextSeed(lots);
                carryOut(habit, comes, lotOf(lots, law.heirs.size));
            }
        }

        private static int nextSeed(int seed) {
            return 1103515245 * seed + 12345;
        }

        private static int lotOf(int seed, int bound) {
            return bound > 0 ? (seed >>> 16) % bound : NONE;
        }
    }

    /** BEST: a search over the first habits that tries the least rows first and keeps only what is better. */
    private static final class Plan {
        static final int HABITS = 6, HEIRS = 4, STEPS = HABITS + 1;

        final int[] row = new int[HABITS];
        final int[] kept = new int[HABITS];
        final int[] share = new int[HEIRS];
        final int[] worthFrom = new int[STEPS];
        final long[] open = new long[HEIRS * STEPS];
        int habits = 0;
        int heirs = 0;
        int most = 0;
        boolean known = false;

        void find(Law law) {
            if (known) {
                return;
            }
            habits = Math.min(law.habits.size, HABITS);
            heirs = Math.min(law.heirs.size, HEIRS);
            most = NONE;
            Arrays.fill(row, NONE);
            Arrays.fill(kept, NONE);
            Arrays.fill(share, 0);
            Arrays.fill(worthFrom, 0);
            for (int habit = habits - 1; habit >= 0; habit--) {
                worthFrom[habit] = worthFrom[habit + 1] + law.worthOf(1 << habit);
            }
            for (int heir = 0; heir < heirs; heir++) {
                openSetsOf(law, heir);
            }
            place(this, law, 0, 0);
            known = true;
        }

        int keeperOf(int habit) {
            return isBelow(habit, HABITS) ? kept[habit] : NONE;
        }

        /** Of the habits ahead of each step, the sets with which he may yet live by what comes behind it. */
        private void openSetsOf(Law law, int heir) {
            long sets = 0;
            for (int set = 0; set < 1 << habits; set++) {
                if (law.canLive(heir, set)) {
                    sets |= 1L << set;
                }
            }
            keepOpen(heir, habits, sets);
            for (int step = habits - 1; step >= 0; step--) {
                sets |= sets >>> (1 << step);
                keepOpen(heir, step, sets);
            }
        }

        private void keepOpen(int heir, int step, long sets) {
            int place = heir * STEPS + step;
            if (isBelow(place, open.length)) {
                open[place] = sets;
            }
        }

        private boolean mayAllLive(int step) {
            for (int heir = 0; heir < heirs && heir < HEIRS; heir++) {
                int place = heir * STEPS + step;
                if (!isBelow(place, open.length) || (open[place] >>> share[heir] & 1L) == 0L) {
                    return false;
                }
            }
            return true;
        }

        private static void place(Plan plan, Law law, int habit, int worth) {
            if (!isBelow(habit, STEPS) || worth + plan.worthFrom[habit] <= plan.most || !plan.mayAllLive(habit)) {
                return;
            }
            if (habit >= plan.habits || habit >= HABITS) {
                plan.most = worth;
                System.arraycopy(plan.row, 0, plan.kept, 0, HABITS);
                return;
            }
            for (int heir = 0; heir < plan.heirs && heir < HEIRS; heir++) {
                int before = plan.share[heir];
                plan.share[heir] = before | 1 << habit;
                plan.row[habit] = heir;
                place(plan, law, habit + 1, worth + law.habits.worth[habit]);
                plan.share[heir] = before;
            }
            plan.row[habit] = NONE;
            place(plan, law, habit + 1, worth);
        }
    }

    /** What each day is worth to each heir, and how two part a habit by days. */
    private static final class Week {
        final int[] values = new int[MOST_HEIRS * WEEK];

        Week() {
            Arrays.fill(values, 1);
        }

        int change(int heir, int day, int v) {
            int place = heir * WEEK + day;
            if (!isBelow(place, values.length)) {
                return BAD;
            }
            int was = values[place];
            values[place] = v;
            return was;
        }

        int divide(int a, int b) {
            int all = (1 << WEEK) - 1;
            int allOfA = sumOf(a, all);
            int allOfB = sumOf(b, all);
            int chosen = NONE;
            int most = NONE;
            for (int days = 0; days <= all; days++) {
                int ownOfA = sumOf(a, days);
                int ownOfB = allOfB - sumOf(b, days);
                boolean envies = ownOfA < allOfA - ownOfA || ownOfB < allOfB - ownOfB;
                if (!envies && ownOfA + ownOfB > most) {
                    chosen = days;
                    most = ownOfA + ownOfB;
                }
            }
            return chosen;
        }

        int bothHave(int a, int b, int days) {
            return sumOf(a, days) + sumOf(b, ~days);
        }

        private int sumOf(int heir, int days) {
            int sum = 0;
            for (int day = 0; day < WEEK; day++) {
                int place = heir * WEEK + day;
                if (hasBit(days, day) && isBelow(place, values.length)) {
                    sum += values[place];
                }
            }
            return sum;
        }
    }

    private static final class Sightings {
        final int[] hour = new int[MOST_SEEN];
        final int[] who = new int[MOST_SEEN];
        final int[] what = new int[MOST_SEEN];
        int size = 0;

        static boolean mayBe(int hour, int heir, int habit) {
            return isBelow(hour, DAY_HOURS) && isBelow(heir, MOST_HEIRS)
                && (habit == NONE || isBelow(habit, MOST_HABITS));
        }

        boolean add(int atHour, int heir, int habit) {
            if (!isBelow(size, MOST_SEEN)) {
                return false;
            }
            hour[size] = atHour;
            who[size] = heir;
            what[size] = habit;
            size++;
            return true;
        }

        /** How many were added: it ends at the first that may not be, or for which there is no place. */
        int addFrom(Sheet sheet) {
            int added = 0;
            for (int i = 0; i + 2 < sheet.size; i += 3) {
                int atHour = sheet.itemAt(i);
                int heir = sheet.itemAt(i + 1);
                int habit = sheet.itemAt(i + 2);
                if (!mayBe(atHour, heir, habit) || !add(atHour, heir, habit)) {
                    return added;
                }
                added++;
            }
            return added;
        }

        boolean allComeOut(Estate estate) {
            for (int i = 0; i < size && i < MOST_SEEN; i++) {
                boolean isThere = estate.law.heirs.hasRow(who[i]);
                int does = isThere ? estate.doingOf(who[i], hour[i]) : NONE;
                if (does != what[i]) {
                    return false;
                }
            }
            return true;
        }
    }

    /** A row of bytes, shorts or ints; its place for items is made once and used again. */
    private static final class Sheet {
        final int[] items = new int[MOST_ITEMS];
        int form = 0;
        int size = NONE;

        boolean isLost() {
            return size == NONE;
        }

        void renew(int newForm, int n) {
            Arrays.fill(items, 0);
            form = newForm;
            size = n;
        }

        boolean hasItems(int from, int n) {
            return n >= 0 && n <= size && from >= 0 && from <= size - n;
        }

        int findingAt(int asForm, int i) {
            if (isLost()) {
                return NULL;
            }
            if (form != asForm) {
                return CAST;
            }
            return isBelow(i, size) ? 0 : INDEX;
        }

        void put(int i, int v) {
            if (isBelow(i, size) && i < items.length) {
                items[i] = form == 0 ? (byte) v : form == 1 ? (short) v : v;
            }
        }

        int itemAt(int i) {
            return isBelow(i, size) && i < items.length ? items[i] : 0;
        }
    }
}
