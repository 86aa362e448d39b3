/** Promises 20 to 24: what was seen, whose habit it was, the next hour to look. */
public final class SeenTest {
    public static void main(String[] args) {
        seenTillFull();
        badSeen();
        reads();
        readsTillFull();
        whoseHabit();
        whoseOfWhoIsNotThere();
        looks();
        badArguments();
        Due.end();
    }

    private static void seenTillFull() {
        HabitWill x = new HabitWill();
        for (int n = 1; n <= 8; n++) {
            Due.is("seen", x.seen(n == 1 ? 0 : 23, n == 2 ? 0 : 5, n == 3 ? -1 : 7), n);
        }
        Due.is("a ninth", x.seen(0, 0, 0), HabitWill.FULL);
        Due.is("BAD comes ahead of FULL", x.seen(24, 0, 0), HabitWill.BAD);
        Due.is("count", x.count(7), 8);
        Due.is("forget", x.forget(), 8);
        Due.is("forget again", x.forget(), 0);
        Due.is("count", x.count(7), 0);
        Due.is("seen once more", x.seen(0, 0, 0), 1);
    }

    private static void badSeen() {
        HabitWill x = new HabitWill();
        Due.is("hour 24", x.seen(24, 0, 0), HabitWill.BAD);
        Due.is("hour -1", x.seen(-1, 0, 0), HabitWill.BAD);
        Due.is("heir 6", x.seen(0, 6, 0), HabitWill.BAD);
        Due.is("heir -1", x.seen(0, -1, 0), HabitWill.BAD);
        Due.is("habit 8", x.seen(0, 0, 8), HabitWill.BAD);
        Due.is("habit -2", x.seen(0, 0, -2), HabitWill.BAD);
        Due.is("nothing was seen", x.count(7), 0);
    }

    private static void layAll(HabitWill x, int s, int form, int... items) {
        x.sheet(s, form, items.length);
        for (int i = 0; i < items.length; i++) {
            x.lay(s, form, i, items[i]);
        }
    }

    private static void reads() {
        for (int form = 0; form < 3; form++) {
            HabitWill x = Due.estate("a15..", "8mm;8mm", "");
            Due.is("of a lost sheet", x.read(3), -11);
            Due.is("the finding", x.count(8), 1);
            layAll(x, 3, form, 0, 1, 0, 5, 1, -1, 0, 0);
            Due.is("two are whole", x.read(3), 2);
            Due.is("two were seen", x.count(7), 2);
            Due.is("it was with 1", x.whose(0), 2);
            Due.is("the sheet stays", x.get(3, form, 5), -1);
            layAll(x, 3, form, 0, 1, 0, 24, 1, -1, 0, 0, 0);
            Due.is("it ends ahead of one that may not be", x.read(3), 1);
            Due.is("three were seen", x.count(7), 3);
            layAll(x, 3, form, 0, 6, 0);
            Due.is("none", x.read(3), 0);
            layAll(x, 3, form, 0, 0, 8);
            Due.is("none", x.read(3), 0);
            layAll(x, 3, form, 0, 0);
            Due.is("none is whole", x.read(3), 0);
            layAll(x, 3, form);
            Due.is("an empty sheet", x.read(3), 0);
            Due.is("three still", x.count(7), 3);
        }
        HabitWill x = new HabitWill();
        Due.is("sheet 4", x.read(4), HabitWill.BAD);
        Due.is("sheet -1", x.read(-1), HabitWill.BAD);
        Due.is("no finding by BAD", x.count(8), 0);
    }

    private static void readsTillFull() {
        HabitWill x = new HabitWill();
        x.sheet(0, 0, 60);
        Due.is("eight of twenty", x.read(0), 8);
        Due.is("when full", x.read(0), 0);
        Due.is("count", x.count(7), 8);
        x.forget();
        x.seen(0, 0, 0);
        Due.is("seven behind one", x.read(0), 7);
    }

    private static void whoseHabit() {
        HabitWill x = Due.estate("c25..;d19..;d17..", "8mm;8mm;8cd", "0+0;1+0;2+1");
        Due.is("nothing seen", x.whose(0), 1 | 2 | 4 | 64);
        x.seen(2, 0, -1);
        Due.is("not with 0", x.whose(0), 2 | 4 | 64);
        Due.is("nor can another make it so: 1", x.whose(1), 0);
        x.forget();
        x.seen(3, 0, 0);
        Due.is("1 is not with 0: it would be greater", x.whose(1), 2 | 4 | 64);
        Due.is("0 is with 0, yet 1 is done", x.whose(0), 0);
        x.forget();
        x.seen(3, 1, 2);
        Due.is("seen with 1", x.whose(2), 2);
        Due.is("1 with 1 would hide it", x.whose(1), 1 | 4 | 64);
        Due.is("0 with 1 would not hide it", x.whose(0), 1 | 2 | 4 | 64);
        x.seen(2, 2, -1);
        Due.is("2 is away at 2: it may be his too", x.whose(0), 1 | 2 | 4 | 64);
        x.refuse(2, 0);
        Due.is("by refusals it does not hang", x.whose(0), 1 | 2 | 4 | 64);
        x.seen(3, 1, -1);
        Due.is("against itself", x.whose(2), 0);
        Due.is("the will is as it was", x.with(0), 0);
    }

    private static void whoseOfWhoIsNotThere() {
        HabitWill x = Due.estate("c25..", "8mm", "");
        x.seen(2, 5, -1);
        Due.is("who is not there does nothing", x.whose(0), 1 | 64);
        x.seen(2, 5, 0);
        Due.is("so he did not do it", x.whose(0), 0);
        x.forget();
        x.seen(2, 0, 7);
        Due.is("nor was a habit done that is not there", x.whose(0), 0);
        x = Due.estate("c25..", "", "");
        Due.is("without heirs", x.whose(0), 64);
    }

    private static void looks() {
        HabitWill x = Due.estate("c25..;d19..;d17..", "8mm;8mm;8cd", "0+0;1+0;2+1");
        Due.is("0 by 0: the first hour that tells", x.look(0, 0), 2);
        Due.is("1 by 0", x.look(1, 0), 3);
        Due.is("1 by 1", x.look(1, 1), 3);
        Due.is("0 by 2, who cannot do it", x.look(0, 2), 0);
        Due.is("2 by 0, behind a greater one", x.look(2, 0), 0);
        Due.is("2 by 2, who may do it at 3", x.look(2, 2), 3);
        x.seen(2, 0, -1);
        Due.is("0 is not with 0, so it tells nothing", x.look(0, 0), 0);
        Due.is("0 by 1", x.look(0, 1), 2);
        x.forget();
        x.seen(2, 0, 0);
        Due.is("one alone", x.look(0, 0), 0);
        x.seen(2, 0, 1);
        Due.is("nobody", x.look(0, 0), 0);
        x = Due.estate("e15..;k150.", "8mm;8mm", "1+0");
        Due.is("one that leans on it is done", x.look(0, 0), 4);
        x = Due.estate("k15..;e150.", "8mm;8mm", "1+0");
        Due.is("one that leans on it is done ahead of it", x.look(0, 0), 4);
    }

    private static void badArguments() {
        HabitWill x = Due.estate("a15..;b15..", "8mm", "");
        int[] bad = {-1, 2, 8, Integer.MAX_VALUE, Integer.MIN_VALUE};
        for (int b : bad) {
            Due.is("whose of " + b, x.whose(b), HabitWill.BAD);
            Due.is("look of " + b, x.look(b, 0), HabitWill.BAD);
            Due.is("look by " + b, x.look(0, b), HabitWill.BAD);
        }
        Due.is("look by one who is not there", x.look(0, 1), HabitWill.BAD);
    }
}
