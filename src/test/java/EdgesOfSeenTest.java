import java.math.BigInteger;

/** The boundary cases of what was seen, of marches and of wills by a seed, one test for each: promises 20 to 26. */
public final class EdgesOfSeenTest {
    private static final int NONE = HabitWill.NONE, BAD = HabitWill.BAD, FULL = HabitWill.FULL;
    private static final int LEAST = Integer.MIN_VALUE, MOST = Integer.MAX_VALUE;
    private static final int NULL = -11, NOBODY = 64;
    private static final String EIGHT_VICES = "a15.!;b15.!;c15.!;d15.!;e15.!;f15.!;g15.!;h15.!";
    private static final String ALL = "0+0;1+0;2+0;3+0;4+0;5+0;6+0;7+0";

    public static void main(String[] args) {
        seenOutside();
        seenAtItsEnds();
        seenTillFull();
        seenBadAheadOfFull();
        seenOfWhoIsNotThere();
        forgetNone();
        forgetAll();
        readOfNoSheet();
        readOfALostSheet();
        readOfAnEmptySheet();
        readAsManyAsAreWhole();
        readOfEachForm();
        readAsLongAsEachMayBe();
        readTillFull();
        readWhenFull();
        readBehindWhatWasSeen();
        whoseOutside();
        whoseOfNothingSeen();
        whoseWithoutHeirs();
        whoseOfWhoIsNotThere();
        whoseInPlaceOfTheWills();
        whoseOfNobody();
        whoseOfTheLast();
        whoseOfNoneSeen();
        lookOutside();
        lookWhereNobodyMayBe();
        lookWhereOneMayBe();
        lookOfTwo();
        lookAtTheLastHour();
        lookOfLikeOnesTheFirst();
        lookPastMidnight();
        marchOutside();
        marchRefusalIsTheLeastLong();
        marchOfNoVices();
        marchByNothing();
        marchByAll();
        marchOfMoreThanThereAre();
        marchInLowestTerms();
        marchOfEight();
        marchAddsToOne();
        willsOutside();
        willsWithoutHabits();
        willsWithoutHeirs();
        willsOfSeedsAtTheirEnds();
        willsOfOneAndTwenty();
        willsOfOneHabitAndOneHeir();
        willsKeepRefusals();
        willsChangeNothing();
        Due.end();
    }

    // ---- 20: SEEN more: how many. BAD; FULL. 8 at most: in an HOUR an HEIR (0 to 5) DID a habit (0 to 7), or none.

    private static void seenOutside() {
        HabitWill x = new HabitWill();
        for (int hour : new int[] {-1, 24, LEAST, MOST}) {
            Due.is("20: hour " + hour, x.seen(hour, 0, 0), BAD);
        }
        for (int heir : new int[] {-1, 6, LEAST, MOST}) {
            Due.is("20: heir " + heir, x.seen(0, heir, 0), BAD);
        }
        for (int habit : new int[] {-2, 8, LEAST, MOST}) {
            Due.is("20: habit " + habit, x.seen(0, 0, habit), BAD);
        }
        Due.is("20: nothing came of it", x.count(7), 0);
    }

    private static void seenAtItsEnds() {
        HabitWill x = new HabitWill();
        Due.is("20: the least", x.seen(0, 0, NONE), 1);
        Due.is("20: the greatest", x.seen(23, 5, 7), 2);
    }

    private static HabitWill full() {
        HabitWill x = Due.estate("a15..", "8mm", "");
        for (int n = 1; n <= 8; n++) {
            Due.is("20: how many", x.seen(5, 0, NONE), n);
        }
        return x;
    }

    private static void seenTillFull() {
        HabitWill x = full();
        Due.is("20: a ninth", x.seen(0, 0, NONE), FULL);
        Due.is("20: eight", x.count(7), 8);
        Due.is("20: it was not taken in", x.whose(0), 1 | NOBODY);
    }

    private static void seenBadAheadOfFull() {
        HabitWill x = full();
        Due.is("20: hour 24 when full", x.seen(24, 0, 0), BAD);
        Due.is("20: heir 6 when full", x.seen(0, 6, 0), BAD);
        Due.is("20: habit 8 when full", x.seen(0, 0, 8), BAD);
    }

    private static void seenOfWhoIsNotThere() {
        HabitWill x = new HabitWill();
        Due.is("20: without heirs and habits", x.seen(0, 5, 7), 1);
    }

    // ---- 21: All SEEN are forgotten: how many.

    private static void forgetNone() {
        Due.is("21: none", new HabitWill().forget(), 0);
    }

    private static void forgetAll() {
        HabitWill x = full();
        Due.is("21: eight", x.forget(), 8);
        Due.is("21: none is left", x.count(7), 0);
        Due.is("21: none is left to forget", x.forget(), 0);
        Due.is("21: there is place again", x.seen(0, 0, NONE), 1);
        x.forget();
        Due.is("21: they bind no more", x.whose(0), 1 | NOBODY);
    }

    // ---- 22: SEEN from a SHEET: its items, three for each, as many as are whole, as long as each may be. BAD; NULL.

    private static HabitWill withSheet(int form, int... items) {
        HabitWill x = new HabitWill();
        x.sheet(2, form, items.length);
        for (int i = 0; i < items.length; i++) {
            x.lay(2, form, i, items[i]);
        }
        return x;
    }

    private static void read(String name, HabitWill x, int want, int seenThen) {
        Due.is("22: " + name, x.read(2), want);
        Due.is("22: " + name + ", seen then", x.count(7), seenThen);
    }

    private static void readOfNoSheet() {
        HabitWill x = new HabitWill();
        for (int s : new int[] {-1, 4, LEAST, MOST}) {
            Due.is("22: sheet " + s, x.read(s), BAD);
        }
        Due.is("22: no finding", x.count(8), 0);
    }

    private static void readOfALostSheet() {
        for (int s = 0; s < 4; s++) {
            HabitWill x = new HabitWill();
            Due.is("22: lost sheet " + s, x.read(s), NULL);
            Due.is("22: its finding", x.count(8), 1);
        }
        HabitWill x = withSheet(2, 0, 0, 0);
        x.lose(2);
        Due.is("22: lost again", x.read(2), NULL);
    }

    private static void readOfAnEmptySheet() {
        read("no items", withSheet(2), 0, 0);
    }

    private static void readAsManyAsAreWhole() {
        read("one item", withSheet(2, 0), 0, 0);
        read("two items", withSheet(2, 0, 0), 0, 0);
        read("three items", withSheet(2, 0, 0, 0), 1, 1);
        read("four items", withSheet(2, 0, 0, 0, 0), 1, 1);
        read("five items", withSheet(2, 0, 0, 0, 0, 0), 1, 1);
        read("six items", withSheet(2, 0, 0, 0, 0, 0, 0), 2, 2);
        // what is not whole is not looked at
        read("a rest that may not be", withSheet(2, 0, 0, 0, 99, 99), 1, 1);
    }

    private static void readOfEachForm() {
        for (int form = 0; form < 3; form++) {
            read("form " + form, withSheet(form, 23, 5, 7, 0, 0, -1), 2, 2);
        }
    }

    private static void readAsLongAsEachMayBe() {
        int[][] bad = {{24, 0, 0}, {-1, 0, 0}, {0, 6, 0}, {0, -1, 0}, {0, 0, 8}, {0, 0, -2}};
        for (int[] b : bad) {
            read("the first may not be", withSheet(0, b[0], b[1], b[2], 0, 0, 0), 0, 0);
            read("the second may not be", withSheet(0, 0, 0, 0, b[0], b[1], b[2], 0, 0, 0), 1, 1);
        }
        read("as ints they are too large", withSheet(2, 256, 0, 0), 0, 0);
        read("as bytes 256 is 0", withSheet(0, 256, 0, 0), 1, 1);
        Due.is("22: one that may not be is no finding", withSheet(2, 24, 0, 0).count(8), 0);
    }

    private static void readTillFull() {
        HabitWill x = new HabitWill();
        x.sheet(2, 0, 24);
        read("eight of eight", x, 8, 8);
        x = new HabitWill();
        x.sheet(2, 0, 27);
        read("eight of nine", x, 8, 8);
        x = new HabitWill();
        x.sheet(2, 0, 60);
        read("eight of twenty", x, 8, 8);
    }

    private static void readWhenFull() {
        HabitWill x = full();
        x.sheet(2, 1, 3);
        read("when full", x, 0, 8);
    }

    private static void readBehindWhatWasSeen() {
        HabitWill x = withSheet(1, 1, 0, -1, 2, 0, -1);
        x.seen(0, 0, NONE);
        read("behind one", x, 2, 3);
        read("behind three", x, 2, 5);
        x.seen(0, 0, NONE);
        x.seen(0, 0, NONE);
        read("the last place", x, 1, 8);
    }

    // ---- 23: WHOSE, as bits. BAD.

    private static void whoseOutside() {
        HabitWill x = Due.estate("a15..;b15..", "8mm", "");
        for (int habit : new int[] {-1, 2, 7, 8, LEAST, MOST}) {
            Due.is("23: habit " + habit, x.whose(habit), BAD);
        }
        Due.is("23: without habits", Due.estate("", "8mm", "").whose(0), BAD);
    }

    private static void whoseOfNothingSeen() {
        Due.is("23: anybody's", Due.estate("a15..", "8mm;8mm;8mm;8mm;8mm;8mm", "").whose(0), 127);
        // he may have it though he cannot do it
        Due.is("23: also of one who cannot", Due.estate("a15..", "8ab", "").whose(0), 1 | NOBODY);
    }

    private static void whoseWithoutHeirs() {
        Due.is("23: without heirs", Due.estate("a15..", "", "").whose(0), NOBODY);
    }

    private static void whoseOfWhoIsNotThere() {
        HabitWill x = Due.estate("a15..", "8mm", "");
        x.seen(0, 1, NONE);
        Due.is("23: of who is not there: none", x.whose(0), 1 | NOBODY);
        x.seen(0, 1, 0);
        Due.is("23: he did nothing", x.whose(0), 0);
        x = Due.estate("a15..", "8mm", "");
        x.seen(0, 0, 1);
        Due.is("23: a habit that is not there", x.whose(0), 0);
    }

    private static void whoseInPlaceOfTheWills() {
        HabitWill x = Due.estate("a15..;a19..", "8mm;8mm", "0+0;1+1");
        x.seen(0, 1, 1);
        Due.is("23: the other stays as THE WILL has it", x.whose(0), 1 | 2 | NOBODY);
        x.seen(0, 0, 0);
        Due.is("23: seen with him", x.whose(0), 1);
        Due.is("23: THE WILL is as it was", x.with(0), 0);
    }

    private static void whoseOfNobody() {
        HabitWill x = Due.estate("a15..", "8mm;8mm", "0+0");
        x.seen(0, 0, NONE);
        x.seen(0, 1, NONE);
        Due.is("23: nobody", x.whose(0), NOBODY);
    }

    private static void whoseOfTheLast() {
        HabitWill x = Due.estate("a10..;a10..;a10..;a10..;a10..;a10..;a10..;h15..", "8mm;8mm;8mm;8mm;8mm;8mm", "");
        x.seen(7, 5, 7);
        Due.is("23: the last habit, the last heir", x.whose(7), 32);
    }

    private static void whoseOfNoneSeen() {
        HabitWill x = Due.estate("x95..", "8mm", "");
        x.seen(7, 0, NONE);
        Due.is("23: not his, by an hour past midnight", x.whose(0), NOBODY);
        x.forget();
        x.seen(8, 0, NONE);
        Due.is("23: the hour behind it tells nothing", x.whose(0), 1 | NOBODY);
    }

    // ---- 24: LOOK. BAD.

    private static void lookOutside() {
        HabitWill x = Due.estate("a15..;b15..", "8mm;8mm", "");
        for (int habit : new int[] {-1, 2, 8, LEAST, MOST}) {
            Due.is("24: habit " + habit, x.look(habit, 0), BAD);
        }
        for (int heir : new int[] {-1, 2, 5, 6, LEAST, MOST}) {
            Due.is("24: heir " + heir, x.look(0, heir), BAD);
        }
        Due.is("24: without heirs", Due.estate("a15..", "", "").look(0, 0), BAD);
        Due.is("24: without habits", Due.estate("", "8mm", "").look(0, 0), BAD);
    }

    private static void lookWhereNobodyMayBe() {
        HabitWill x = Due.estate("k15..", "8mm", "");
        x.seen(10, 0, 0);
        x.seen(10, 0, NONE);
        Due.is("24: nobody may be", x.whose(0), 0);
        Due.is("24: alike in all hours", x.look(0, 0), 0);
    }

    private static void lookWhereOneMayBe() {
        HabitWill x = Due.estate("k15..", "8mm", "");
        x.seen(10, 0, 0);
        Due.is("24: one may be", x.whose(0), 1);
        Due.is("24: nothing to tell", x.look(0, 0), 0);
    }

    private static void lookOfTwo() {
        Due.is("24: he or nobody", Due.estate("k15..", "8mm", "").look(0, 0), 10);
        HabitWill x = Due.estate("k15..", "8mm;8mm", "");
        x.seen(10, 1, NONE);
        Due.is("24: he or nobody, by what was seen", x.look(0, 0), 10);
        Due.is("24: of the other it tells nothing", x.look(0, 1), 0);
    }

    private static void lookAtTheLastHour() {
        Due.is("24: at 23", Due.estate("x15..", "8mm", "").look(0, 0), 23);
        Due.is("24: at 0", Due.estate("a15..", "8mm", "").look(0, 0), 0);
    }

    private static void lookOfLikeOnesTheFirst() {
        Due.is("24: the first of three", Due.estate("k35..", "8mm", "").look(0, 0), 10);
        HabitWill x = Due.estate("k35..;k19..", "8mm", "1+0");
        Due.is("24: the first in which it shows", x.look(0, 0), 11);
        x = Due.estate("k15..;m150.;c150.", "8mm", "1+0;2+0");
        Due.is("24: the first of those that lean on it", x.look(0, 0), 2);
    }

    private static void lookPastMidnight() {
        Due.is("24: past midnight", Due.estate("x25..", "8mm", "").look(0, 0), 0);
    }

    // ---- 25: MARCH: above, below. BAD. (As the least long.)

    private static HabitWill withVices(int n) {
        return Due.estate(EIGHT_VICES, "8mm", n == 0 ? "" : ALL.substring(0, 4 * n - 1));
    }

    private static void march(int vices, int c, int left, long above, long below) {
        HabitWill x = withVices(vices);
        String name = "25: " + vices + " by " + c + ", " + left + " left";
        Due.is(name + ", above", x.march(c, 0, left, 0), above);
        Due.is(name + ", below", x.march(c, 0, left, 1), below);
    }

    private static void marchOutside() {
        HabitWill x = withVices(8);
        long bad = Long.MIN_VALUE + 2;
        for (int n : new int[] {-1, LEAST, MOST}) {
            Due.is("25: c " + n, x.march(n, 0, 0, 0), bad);
            Due.is("25: heir " + n, x.march(0, n, 0, 0), bad);
            Due.is("25: left " + n, x.march(0, 0, n, 0), bad);
            Due.is("25: what " + n, x.march(0, 0, 0, n), bad);
        }
        Due.is("25: c 17", x.march(17, 0, 0, 0), bad);
        Due.is("25: heir 1, who is not there", x.march(0, 1, 0, 0), bad);
        Due.is("25: left 9", x.march(0, 0, 9, 0), bad);
        Due.is("25: what 2", x.march(0, 0, 0, 2), bad);
    }

    private static void marchRefusalIsTheLeastLong() {
        Due.is("25: the least long and 2 more", new HabitWill().march(0, 0, 0, 0), -9223372036854775806L);
    }

    private static void marchOfNoVices() {
        march(0, 7, 0, 1, 1);
        march(0, 7, 1, 0, 1);
        march(0, 0, 0, 1, 1);
        march(0, 16, 8, 0, 1);
    }

    private static void marchByNothing() {
        march(3, 0, 3, 1, 1);
        march(3, 0, 2, 0, 1);
        march(3, 0, 0, 0, 1);
    }

    private static void marchByAll() {
        march(3, 16, 0, 1, 1);
        march(3, 16, 1, 0, 1);
        march(3, 16, 3, 0, 1);
    }

    private static void marchOfMoreThanThereAre() {
        march(3, 5, 4, 0, 1);
        march(3, 5, 8, 0, 1);
    }

    private static void marchInLowestTerms() {
        march(1, 8, 0, 1, 2);
        march(1, 4, 0, 1, 4);
        march(1, 4, 1, 3, 4);
        march(1, 5, 0, 5, 16);
        march(2, 8, 1, 1, 2);
        march(2, 1, 1, 15, 128);
    }

    private static void marchOfEight() {
        march(8, 1, 0, 1, 1L << 32);
        march(8, 15, 8, 1, 1L << 32);
        march(8, 1, 8, 2562890625L, 1L << 32);
        march(8, 0, 8, 1, 1);
        march(8, 16, 0, 1, 1);
        march(8, 8, 4, 35, 128);
    }

    private static void marchAddsToOne() {
        for (int vices = 0; vices <= 8; vices++) {
            for (int c = 0; c <= 16; c++) {
                HabitWill x = withVices(vices);
                BigInteger all = BigInteger.ZERO;
                BigInteger whole = BigInteger.ONE.shiftLeft(32);
                for (int left = 0; left <= 8; left++) {
                    BigInteger above = BigInteger.valueOf(x.march(c, 0, left, 0));
                    BigInteger below = BigInteger.valueOf(x.march(c, 0, left, 1));
                    Due.is("25: in lowest terms", above.gcd(below).longValue(), 1);
                    all = all.add(above.multiply(whole).divide(below));
                }
                Due.is("25: all chances of " + vices + " by " + c, all.equals(whole) ? 1 : 0, 1);
            }
        }
    }

    // ---- 26: WILLS. BAD: also where there are no habits.

    private static final BigInteger INTS = BigInteger.ONE.shiftLeft(32);

    /** SEED as a number from 0 on, so that nothing here wraps or has a sign. */
    private static BigInteger next(BigInteger seed) {
        return seed.multiply(BigInteger.valueOf(1103515245L)).add(BigInteger.valueOf(12345L)).mod(INTS);
    }

    private static int lot(BigInteger seed, int of) {
        return seed.shiftRight(16).mod(BigInteger.valueOf(of)).intValue();
    }

    /** Worths that differ, so that one sees which habits are with whom; no will ahead. */
    private static int wills(int seed, int n, int heir, int habits, int heirs, int[] worths) {
        int[] owner = new int[habits];
        java.util.Arrays.fill(owner, NONE);
        BigInteger s = BigInteger.valueOf(seed).mod(INTS);
        for (int i = 0; i < n; i++) {
            s = next(s);
            int habit = lot(s, habits);
            s = next(s);
            boolean comes = lot(s, 2) == 0;
            s = next(s);
            int who = lot(s, heirs);
            if (comes) {
                owner[habit] = who;
            } else if (owner[habit] == who) {
                owner[habit] = NONE;
            }
        }
        int worth = 0;
        for (int habit = 0; habit < habits; habit++) {
            worth += owner[habit] == heir ? worths[habit] : 0;
        }
        return worth;
    }

    private static void willsOutside() {
        HabitWill x = Due.estate("a15..", "8mm", "0+0");
        for (int n : new int[] {0, 21, -1, LEAST, MOST}) {
            Due.is("26: n " + n, x.wills(7, n, 0), BAD);
        }
        for (int heir : new int[] {-1, 1, 5, 6, LEAST, MOST}) {
            Due.is("26: heir " + heir, x.wills(7, 1, heir), BAD);
        }
    }

    private static void willsWithoutHabits() {
        Due.is("26: no habits", Due.estate("", "8mm", "").wills(7, 9, 0), BAD);
        Due.is("26: habits with a fault", Due.estate("a15.", "8mm", "").wills(7, 9, 0), BAD);
    }

    private static void willsWithoutHeirs() {
        Due.is("26: no heirs", Due.estate("a15..", "", "").wills(7, 9, 0), BAD);
    }

    private static void willsOfSeedsAtTheirEnds() {
        int[] worths = {1, 2, 4, 8, 9, 3, 5};
        for (int seed : new int[] {0, 1, -1, LEAST, MOST, LEAST + 1, MOST - 1, 65536, -65536, 1103515245}) {
            for (int heir = 0; heir < 5; heir++) {
                HabitWill x = Due.estate("a11..;b12..;c14..;d18..;e19..;f13..;g15..", "8mm;8mm;8mm;8mm;8mm", "");
                Due.is("26: seed " + seed, x.wills(seed, 13, heir), wills(seed, 13, heir, 7, 5, worths));
            }
        }
    }

    private static void willsOfOneAndTwenty() {
        int[] worths = {1, 2, 4};
        for (int seed = -40; seed < 40; seed++) {
            HabitWill x = Due.estate("a11..;b12..;c14..", "8mm;8mm;8mm", "");
            Due.is("26: one, seed " + seed, x.wills(seed, 1, 1), wills(seed, 1, 1, 3, 3, worths));
            Due.is("26: twenty, seed " + seed, x.wills(seed, 20, 1), wills(seed, 20, 1, 3, 3, worths));
        }
    }

    /** A LOT of 1 is 0, and takes its turn. */
    private static void willsOfOneHabitAndOneHeir() {
        int[] worths = {5};
        for (int seed = -20; seed < 20; seed++) {
            HabitWill x = Due.estate("a15..", "8mm", "");
            for (int n = 1; n <= 4; n++) {
                Due.is("26: lots of 1, seed " + seed, x.wills(seed, n, 0), wills(seed, n, 0, 1, 1, worths));
            }
        }
    }

    private static void willsKeepRefusals() {
        for (int seed = 0; seed < 20; seed++) {
            HabitWill x = Due.estate("a15..", "8mm", "");
            x.refuse(0, 0);
            Due.is("26: refused, seed " + seed, x.wills(seed, 20, 0), 0);
        }
    }

    private static void willsChangeNothing() {
        HabitWill x = Due.estate("a15..;b14..", "8mm;8mm", "0+0;1+1");
        long before = x.digest();
        x.wills(7, 20, 1);
        Due.is("26: the will is as it was", x.has(0, 0), 1);
        Due.is("26: done as before", x.done(), 3);
        Due.is("26: all is as it was", x.digest(), before);
    }
}
