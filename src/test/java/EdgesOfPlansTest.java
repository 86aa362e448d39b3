/** The boundary cases of plans, one test for each sentence that names one: promises 17 to 19. */
public final class EdgesOfPlansTest {
    private static final int NONE = HabitWill.NONE, BAD = HabitWill.BAD;
    private static final int LEAST = Integer.MIN_VALUE, MOST = Integer.MAX_VALUE;

    public static void main(String[] args) {
        bestOutside();
        bestOfNothing();
        bestOfTheFirstSixHabits();
        bestOfTheFirstFourHeirs();
        bestKeepsRoom();
        bestKeepsAway();
        bestKeepsLeans();
        bestKeepsBars();
        bestOfLikeOnesTheLeastRow();
        bestNobodyIsMoreThanAny();
        bestOfWorthNothing();
        bestAnewBehindEachText();
        writeOutside();
        writeOfOneWhoLives();
        writeOfOneWhoHasNothing();
        writeTheFewest();
        writeOfLikeOnesTheLeastBits();
        writeOfAll();
        writeOnlyOfHabitsThatThereAre();
        writeWhenRefusalsAreFull();
        writeCountsOnlyWhatIsMore();
        writeChangesNothing();
        partOutside();
        partOfOneTwice();
        partOfWhoIsNotThere();
        partOfNone();
        partAlikeIsNoEnvy();
        partOfLikeOnesTheLeast();
        partOfAllOrNothing();
        partOfTheGreatestValues();
        partOfAllBySlowCount();
        Due.end();
    }

    // ---- 17: BEST: the WORTH (i = NONE), with whom the i-th habit is (0 to 5; NONE). BAD.

    private static void best(String habits, String heirs, int worth, int... row) {
        HabitWill x = Due.estate(habits, heirs, "");
        String name = "17: " + habits + " " + heirs;
        Due.is(name, x.best(NONE), worth);
        for (int i = 0; i < 6; i++) {
            Due.is(name + " at " + i, x.best(i), i < row.length ? row[i] : NONE);
        }
    }

    private static void bestOutside() {
        HabitWill x = Due.estate("a10..;b10..;c10..;d10..;e10..;f10..;g10..;h10..", "8mm", "");
        for (int i : new int[] {-2, 6, 7, 8, LEAST, MOST}) {
            Due.is("17: i " + i, x.best(i), BAD);
            Due.is("17: i " + i + " of nothing", new HabitWill().best(i), BAD);
        }
    }

    private static void bestOfNothing() {
        best("", "", 0);
        best("a19..", "", 0);
        best("", "8mm", 0);
    }

    private static void bestOfTheFirstSixHabits() {
        best("a11..;b11..;c11..;d11..;e11..;f11..;g19..;h19..", "8mm", 6, 0, 0, 0, 0, 0, 0);
        // one that leans on a seventh cannot be kept
        best("a196.;b11..;c11..;d11..;e11..;f11..;g19..", "8mm", 5, NONE, 0, 0, 0, 0, 0);
        best("a195.;b11..;c11..;d11..;e11..;f11..;g19..", "8mm", 14, 0, 0, 0, 0, 0, 0);
    }

    private static void bestOfTheFirstFourHeirs() {
        best("a11..;a11..;a11..;a11..;a19..", "8mm;8mm;8mm;8mm;8mm;8mm", 12, 0, 1, 2, NONE, 3);
        best("b19..", "8bc;8bc;8bc;8bc;8mm;8mm", 0, NONE);
        best("b19..", "8bc;8bc;8bc;8mm;8mm;8mm", 9, 3);
    }

    private static void bestKeepsRoom() {
        best("a11..;b12..;c13..", "1mm", 3, NONE, NONE, 0);
        best("a11..;b12..;c13..", "2mm", 5, NONE, 0, 0);
        best("a11..;b12..;c13..", "3mm", 6, 0, 0, 0);
        best("a11..;b11..;c11..;d11..;e11..;f11..", "1mm;2mm;1mm;2mm", 6, 0, 1, 1, 2, 3, 3);
    }

    private static void bestKeepsAway() {
        best("x25..", "8ab", 0, NONE);
        best("x25..", "8bc", 5, 0);
        best("x25..", "8ab;8wx;8mm", 5, 1);
    }

    private static void bestKeepsLeans() {
        best("a150.", "8mm", 5, 0);
        best("a151.;b10..", "1mm;2mm", 5, 1, 1);
        best("a151.;b10..", "1mm;1mm", 0, NONE, 0);
        best("a151.;b152.;c150.", "2mm;2mm", 0, NONE, NONE, NONE);
    }

    private static void bestKeepsBars() {
        best("w35..;a14..", "8mm", 5, 0, NONE);
        best("w25..;a14..", "8mm", 9, 0, 0);
        best("w35..;a14..", "8mm;8mm", 9, 0, 1);
    }

    private static void bestOfLikeOnesTheLeastRow() {
        best("a15..;a15..", "8mm;8mm;8mm", 10, 0, 1);
        best("a15..;a15..;c15..", "8cd;8mm;8mm", 15, 0, 1, 1);
        best("c15..;a15..;a15..", "8cd;8mm;8mm", 15, 1, 0, 1);
    }

    private static void bestNobodyIsMoreThanAny() {
        best("a15..;a15..", "8mm", 5, 0, NONE);
        best("a10..;a15..", "8mm", 5, NONE, 0);
        best("a10..;c15..", "8mm", 5, 0, 0);
        best("a10..;a10..", "8ab;8mm", 0, 1, NONE);
    }

    private static void bestOfWorthNothing() {
        best("a10..;b10..", "1mm;1mm", 0, 0, 1);
        best("a107.", "8mm", 0, NONE);
    }

    private static void bestAnewBehindEachText() {
        HabitWill x = Due.estate("a15..", "8mm", "");
        Due.is("17: one", x.best(NONE), 5);
        Due.typeAll(x, 0, ";b14..");
        Due.is("17: two", x.best(NONE), 9);
        x.undo(0);
        Due.is("17: a fault", x.best(NONE), 0);
        Due.is("17: a fault, row", x.best(0), NONE);
        x.type(0, '!');
        Due.is("17: two again", x.best(1), 0);
        x.wipe(0);
        Due.is("17: no habits", x.best(0), NONE);
        Due.typeAll(x, 0, "c13..");
        Due.is("17: another one", x.best(NONE), 3);
        x.undo(1);
        Due.is("17: heirs with a fault", x.best(NONE), 0);
        x.type(1, 'm');
        Due.is("17: an heir again", x.best(NONE), 3);
        x.wipe(1);
        Due.is("17: no heirs", x.best(0), NONE);
    }

    // ---- 18: WRITE: how many (what = 0), as bits (1); NONE. BAD.

    private static void write(HabitWill x, String name, int heir, int howMany, int bits) {
        Due.is("18: " + name, x.write(heir, 0), howMany);
        Due.is("18: " + name + ", bits", x.write(heir, 1), bits);
    }

    private static void writeOutside() {
        HabitWill x = Due.estate("a15..;a15..", "8mm;8mm", "0+0;1+0");
        for (int heir : new int[] {-1, 2, 5, 6, LEAST, MOST}) {
            Due.is("18: heir " + heir, x.write(heir, 0), BAD);
            Due.is("18: heir " + heir + ", bits", x.write(heir, 1), BAD);
        }
        for (int what : new int[] {-1, 2, LEAST, MOST}) {
            Due.is("18: what " + what, x.write(0, what), BAD);
        }
        Due.is("18: without heirs", new HabitWill().write(0, 0), BAD);
    }

    private static void writeOfOneWhoLives() {
        write(Due.estate("a15..;b15..", "2mm", "0+0;1+0"), "he lives", 0, 0, 0);
    }

    private static void writeOfOneWhoHasNothing() {
        write(Due.estate("", "1ab", ""), "no habits", 0, 0, 0);
        write(Due.estate("a15..;a15..", "8mm;1mm", "0+0;1+0"), "another has them", 1, 0, 0);
    }

    private static void writeTheFewest() {
        // one at the end in place of two at the start
        write(Due.estate("a15..;c15..;a95..", "8mm", "0+0;1+0;2+0"), "one above two", 0, 1, 4);
        // by refusing that on which an if hangs, two do not come
        write(Due.estate("a15..;a15..;a15..;g15..", "8mm", "0+0;3+0;1+0?3;2+0?3"), "by an if", 0, 1, 8);
        // what he refuses goes to another, and by that nothing more comes to him
        write(Due.estate("a15..;b15..;c15..", "1mm;8mm", "0+0;1+0;2+0"), "room for one", 0, 2, 3);
    }

    private static void writeOfLikeOnesTheLeastBits() {
        write(Due.estate("a15..;a15..", "8mm", "0+0;1+0"), "one of two", 0, 1, 1);
        write(Due.estate("a15..;c15..;c15..", "8mm", "0+0;1+0;2+0"), "one of the last two", 0, 1, 2);
        write(Due.estate("a15..;b15..;c15..;d15..", "2mm", "3+0;2+0;1+0;0+0"), "two of four", 0, 2, 3);
    }

    private static void writeOfAll() {
        String eight = "a10..;a10..;a10..;a10..;a10..;a10..;a10..;a10..";
        String all = "0+0;1+0;2+0;3+0;4+0;5+0;6+0;7+0";
        write(Due.estate(eight, "8ab", all), "he can have none", 0, 8, 255);
        write(Due.estate(eight, "8mm", all), "he can have one", 0, 7, 127);
    }

    private static void writeOnlyOfHabitsThatThereAre() {
        write(Due.estate("a15..", "8ab", "7+0;0+0"), "one is there", 0, 1, 1);
    }

    private static void writeWhenRefusalsAreFull() {
        HabitWill x = Due.estate("a15..;a15..", "8mm", "0+0;1+0");
        for (int n = 0; n < 12; n++) {
            x.refuse(5, 7);
        }
        write(x, "twelve stand already", 0, 1, 1);
    }

    private static void writeCountsOnlyWhatIsMore() {
        HabitWill x = Due.estate("a15..;a15..;a15..", "8mm;8mm", "0+0;1+0;2+0");
        write(x, "none yet", 0, 2, 3);
        x.refuse(0, 2);
        write(x, "one stands", 0, 1, 1);
        x.refuse(0, 0);
        write(x, "two stand", 0, 0, 0);
        x.back();
        x.back();
        x.refuse(1, 2);
        write(x, "one of another stands", 0, 2, 3);
    }

    private static void writeChangesNothing() {
        HabitWill x = Due.estate("a15..;a15..", "8mm", "0+0;1+0");
        x.write(0, 0);
        Due.is("18: no refusal came", x.count(6), 0);
        Due.is("18: he has both still", x.has(0, 0), 3);
        Due.is("18: both clauses do", x.done(), 3);
    }

    // ---- 19: PART: as bits (what = 0), how much (1); NONE. BAD: also one twice.

    private static HabitWill valued(int a, String ofA, int b, String ofB) {
        HabitWill x = new HabitWill();
        for (int day = 0; day < 7; day++) {
            x.value(a, day, ofA.charAt(day) - '0');
            x.value(b, day, ofB.charAt(day) - '0');
        }
        return x;
    }

    private static void part(String ofA, String ofB, int bits, int much) {
        HabitWill x = valued(0, ofA, 5, ofB);
        Due.is("19: " + ofA + " " + ofB, x.part(0, 5, 0), bits);
        Due.is("19: " + ofA + " " + ofB + ", how much", x.part(0, 5, 1), much);
    }

    private static void partOutside() {
        HabitWill x = Due.estate("a15..", "8mm;8mm", "");
        for (int n : new int[] {-1, 6, LEAST, MOST}) {
            Due.is("19: a is " + n, x.part(n, 0, 0), BAD);
            Due.is("19: b is " + n, x.part(0, n, 0), BAD);
        }
        for (int what : new int[] {-1, 2, LEAST, MOST}) {
            Due.is("19: what is " + what, x.part(0, 1, what), BAD);
        }
    }

    private static void partOfOneTwice() {
        for (int heir = 0; heir < 6; heir++) {
            Due.is("19: " + heir + " twice", new HabitWill().part(heir, heir, 0), BAD);
            Due.is("19: " + heir + " twice, how much", new HabitWill().part(heir, heir, 1), BAD);
        }
    }

    private static void partOfWhoIsNotThere() {
        HabitWill x = valued(4, "9000000", 5, "0000009");
        Due.is("19: VALUES are there without HEIRS", x.part(4, 5, 0), 1);
        Due.is("19: VALUES are there without HEIRS, how much", x.part(4, 5, 1), 18);
    }

    private static void partOfNone() {
        part("1111111", "1111111", NONE, NONE);
        part("9000000", "9000000", NONE, NONE);
        part("9999999", "9999999", NONE, NONE);
        part("0000001", "0000001", NONE, NONE);
    }

    private static void partAlikeIsNoEnvy() {
        part("5500000", "5500000", 1, 10);
        part("1111114", "1111114", 31, 10);
        part("0000000", "0000000", 0, 0);
    }

    private static void partOfLikeOnesTheLeast() {
        part("1100000", "0000011", 3, 4);
        part("1111000", "1111000", 3, 4);
        part("0001111", "0001111", 24, 4);
    }

    private static void partOfAllOrNothing() {
        part("1111111", "0000000", 127, 7);
        part("0000000", "1111111", 0, 7);
    }

    private static void partOfTheGreatestValues() {
        part("9999999", "0000000", 127, 63);
        part("9999000", "0000999", 15, 63);
        part("9999990", "9999999", 7, 63);
        part("9999990", "9999990", 7, 54);
    }

    private static int sum(int[] values, int days) {
        int sum = 0;
        for (int day = 0; day < 7; day++) {
            sum += (days >> day & 1) * values[day];
        }
        return sum;
    }

    private static void partOfAllBySlowCount() {
        java.util.Random random = new java.util.Random(19);
        for (int run = 0; run < 200; run++) {
            HabitWill x = new HabitWill();
            int[][] values = new int[2][7];
            int top = 1 + random.nextInt(10);
            for (int i = 0; i < 14; i++) {
                values[i / 7][i % 7] = random.nextInt(top);
                x.value(2 + i / 7, i % 7, values[i / 7][i % 7]);
            }
            int bits = NONE, most = NONE;
            for (int days = 127; days >= 0; days--) {
                int rest = 127 - days;
                boolean envies = sum(values[0], days) < sum(values[0], rest) || sum(values[1], rest) < sum(values[1], days);
                int both = sum(values[0], days) + sum(values[1], rest);
                if (!envies && both >= most) {
                    bits = days;
                    most = both;
                }
            }
            Due.is("19: run " + run, x.part(2, 3, 0), bits);
            Due.is("19: run " + run + ", how much", x.part(2, 3, 1), most);
        }
    }
}
