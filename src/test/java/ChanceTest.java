/** Promises 25 and 26: marches, and wills by a seed. */
public final class ChanceTest {
    private static final long BAD = Long.MIN_VALUE + 2;
    private static final String EIGHT = "a15.!;b15.!;c15.!;d15.!;e15.!;f15.!;g15.!;h15.!";
    private static final String ALL = "0+0;1+0;2+0;3+0;4+0;5+0;6+0;7+0";

    public static void main(String[] args) {
        fewVices();
        eightVices();
        badMarches();
        byLots();
        badWills();
        Due.end();
    }

    private static void march(HabitWill x, int c, int left, long above, long below) {
        Due.is("march " + c + " " + left + ", above", x.march(c, 0, left, 0), above);
        Due.is("march " + c + " " + left + ", below", x.march(c, 0, left, 1), below);
    }

    private static void fewVices() {
        HabitWill x = Due.estate("a15.!;b15..;c15.!;d15.!", "1ab;8mm", "0+0;1+0;2+0;3+1");
        // two vices, one of which he cannot have: it is his all the same
        march(x, 4, 0, 1, 16);
        march(x, 4, 1, 3, 8);
        march(x, 4, 2, 9, 16);
        march(x, 4, 3, 0, 1);
        march(x, 4, 8, 0, 1);
        march(x, 5, 1, 55, 128);
        march(x, 0, 2, 1, 1);
        march(x, 0, 1, 0, 1);
        march(x, 0, 0, 0, 1);
        march(x, 16, 0, 1, 1);
        march(x, 16, 2, 0, 1);
        march(x, 8, 1, 1, 2);
        march(x, 1, 0, 1, 256);
        Due.is("of heir 1", x.march(3, 1, 1, 0), 13);
        Due.is("of heir 1, below", x.march(3, 1, 1, 1), 16);
        x = Due.estate("a15..", "8mm", "0+0");
        march(x, 7, 0, 1, 1);
        march(x, 7, 1, 0, 1);
    }

    private static void eightVices() {
        HabitWill x = Due.estate(EIGHT, "8mm", ALL);
        march(x, 1, 0, 1L, 1L << 32);
        march(x, 15, 8, 1L, 1L << 32);
        march(x, 1, 8, 2562890625L, 1L << 32);
        march(x, 8, 4, 35, 128);
        march(x, 8, 3, 7, 32);
        march(x, 3, 1, 8L * 13 * 2187 / 8, (1L << 32) / 8);
        march(x, 0, 8, 1, 1);
        march(x, 16, 0, 1, 1);
        march(x, 16, 8, 0, 1);
    }

    private static void badMarches() {
        HabitWill x = Due.estate(EIGHT, "8mm", ALL);
        Due.is("c is 17", x.march(17, 0, 0, 0), BAD);
        Due.is("c is -1", x.march(-1, 0, 0, 0), BAD);
        Due.is("heir 1", x.march(0, 1, 0, 0), BAD);
        Due.is("heir -1", x.march(0, -1, 0, 0), BAD);
        Due.is("9 left", x.march(0, 0, 9, 0), BAD);
        Due.is("-1 left", x.march(0, 0, -1, 0), BAD);
        Due.is("what is 2", x.march(0, 0, 0, 2), BAD);
        Due.is("what is -1", x.march(0, 0, 0, -1), BAD);
    }

    /** The will by lots, told as a text: what wills() answers is what that text makes of it. */
    private static int asText(String habits, String heirs, String will, int seed, int n, int heir, int refusing) {
        int habitCount = habits.isEmpty() ? 0 : habits.split(";").length;
        int heirCount = heirs.split(";").length;
        int[] owner = new int[habitCount];
        java.util.Arrays.fill(owner, -1);
        StringBuilder more = new StringBuilder(will);
        int s = seed;
        for (int i = 0; i < n; i++) {
            int[] lots = new int[3];
            int[] bounds = {habitCount, 2, heirCount};
            for (int k = 0; k < 3; k++) {
                s = (int) (1103515245L * s + 12345L);
                lots[k] = (int) ((s & 0xffffffffL) / 65536 % bounds[k]);
            }
            more.append(more.length() == 0 ? "" : ";").append(lots[0]).append(lots[1] == 0 ? '+' : '-').append(lots[2]);
        }
        for (String clause : more.toString().split(";")) {
            int habit = clause.charAt(0) - '0';
            int who = clause.charAt(2) - '0';
            if (clause.charAt(1) == '+' && who != refusing) {
                owner[habit] = who;
            } else if (clause.charAt(1) == '-' && owner[habit] == who) {
                owner[habit] = -1;
            }
        }
        int worth = 0;
        for (int habit = 0; habit < habitCount; habit++) {
            worth += owner[habit] == heir ? habits.charAt(6 * habit + 2) - '0' : 0;
        }
        return worth;
    }

    private static void byLots() {
        String habits = "a11..;b12..;c14..;d18..;e19..";
        String heirs = "8mm;8mm;8mm";
        String will = "0+0;1+1;2+2;3+0;4+1";
        HabitWill x = Due.estate(habits, heirs, will);
        int[] seeds = {0, 1, 7, -1, 12345, Integer.MIN_VALUE, Integer.MAX_VALUE, 99991};
        for (int seed : seeds) {
            for (int n = 1; n <= 20; n++) {
                int heir = n % 3;
                Due.is("wills " + seed + " " + n, x.wills(seed, n, heir), asText(habits, heirs, will, seed, n, heir, -1));
            }
        }
        x.refuse(1, 0);
        x.refuse(1, 1);
        x.refuse(1, 2);
        x.refuse(1, 3);
        x.refuse(1, 4);
        for (int seed : seeds) {
            Due.is("wills refused", x.wills(seed, 20, 0), asText(habits, heirs, will, seed, 20, 0, 1));
            Due.is("wills refused", x.wills(seed, 20, 1), 0);
        }
        Due.is("the will is as it was", x.with(3), 0);
        Due.is("by hand: seed 0, lots 0 1 1", Due.estate("a15..", "8mm", "0+0").wills(0, 1, 0), 5);
    }

    private static void badWills() {
        HabitWill x = Due.estate("a15..", "8mm", "0+0");
        Due.is("n is 0", x.wills(0, 0, 0), HabitWill.BAD);
        Due.is("n is 21", x.wills(0, 21, 0), HabitWill.BAD);
        Due.is("n is -1", x.wills(0, -1, 0), HabitWill.BAD);
        Due.is("heir 1", x.wills(0, 1, 1), HabitWill.BAD);
        Due.is("heir -1", x.wills(0, 1, -1), HabitWill.BAD);
        x.wipe(0);
        Due.is("no habits", x.wills(0, 1, 0), HabitWill.BAD);
        Due.is("no heirs", Due.estate("a15..", "", "").wills(0, 1, 0), HabitWill.BAD);
    }
}
