/** Promises 27 to 32: sheets and their findings. */
public final class SheetsTest {
    private static final int LEAST = Integer.MIN_VALUE;
    private static final int NULL = -11, INDEX = -12, CAST = -13, STORE = -14, SIZE = -15;

    public static void main(String[] args) {
        makeAndLose();
        layAndGet();
        orderOfFindings();
        copies();
        copyFindings();
        hoursOfHeirs();
        Due.end();
    }

    private static void makeAndLose() {
        HabitWill x = new HabitWill();
        Due.is("60 items", x.sheet(3, 2, 60), 60);
        Due.is("61 items", x.sheet(3, 2, 61), HabitWill.BAD);
        Due.is("0 items", x.sheet(0, 0, 0), 0);
        Due.is("no finding yet", x.count(8), 0);
        Due.is("-1 items", x.sheet(0, 0, -1), SIZE);
        Due.is("its finding", x.count(8), 5);
        Due.is("least int items", x.sheet(0, 0, LEAST), SIZE);
        Due.is("sheet 4", x.sheet(4, 0, -1), HabitWill.BAD);
        Due.is("sheet -1", x.sheet(-1, 0, 1), HabitWill.BAD);
        Due.is("form 3", x.sheet(0, 3, -1), HabitWill.BAD);
        Due.is("form -1", x.sheet(0, -1, 1), HabitWill.BAD);
        Due.is("lose of what BAD left as it was", x.lose(3), 60);
        Due.is("lose of a lost one", x.lose(3), NULL);
        Due.is("its finding", x.count(8), 1);
        Due.is("lose of an empty one", x.lose(0), 0);
        Due.is("lose 4", x.lose(4), HabitWill.BAD);
        Due.is("lose -1", x.lose(-1), HabitWill.BAD);
        x.sheet(1, 2, 5);
        x.lay(1, 2, 4, 77);
        x.sheet(1, 2, 5);
        Due.is("a new row", x.get(1, 2, 4), 0);
        x.lay(1, 2, 0, 77);
        x.sheet(1, 0, 9);
        Due.is("of a new form", x.get(1, 0, 0), 0);
        Due.is("with so many", x.lose(1), 9);
    }

    private static void layAndGet() {
        HabitWill x = new HabitWill();
        int[] values = {0, 1, -1, 127, 128, 255, 256, 32767, 32768, 65535, 65536, LEAST, Integer.MAX_VALUE, 0x12345678};
        for (int form = 0; form < 3; form++) {
            x.sheet(form, form, 2);
            for (int v : values) {
                int want = form == 0 ? (byte) v : form == 1 ? (short) v : v;
                Due.is("lay", x.lay(form, form, 1, v), 1);
                Due.is("get of form " + form + ", " + v, x.get(form, form, 1), want);
                Due.is("the other item", x.get(form, form, 0), 0);
            }
        }
        Due.is("no finding", x.count(8), 0);
    }

    private static void orderOfFindings() {
        HabitWill x = new HabitWill();
        x.sheet(0, 1, 3);
        Due.is("lay 4", x.lay(4, 0, 0, 0), HabitWill.BAD);
        Due.is("lay -1", x.lay(-1, 0, 0, 0), HabitWill.BAD);
        Due.is("lay of a lost one, form 3", x.lay(1, 3, 0, 0), HabitWill.BAD);
        Due.is("lay of form -1", x.lay(0, -1, 0, 0), HabitWill.BAD);
        Due.is("get 4", x.get(4, 0, 0), LEAST);
        Due.is("get -1", x.get(-1, 0, 0), LEAST);
        Due.is("get of form 3", x.get(0, 3, 0), LEAST);
        Due.is("get of form -1", x.get(0, -1, 0), LEAST);
        Due.is("no finding by BAD", x.count(8), 0);
        Due.is("lay of a lost one", x.lay(1, 0, 99, 0), NULL);
        Due.is("lay of another form", x.lay(0, 0, 99, 0), CAST);
        Due.is("finding", x.count(8), 3);
        Due.is("lay of no such item", x.lay(0, 1, 3, 0), INDEX);
        Due.is("finding", x.count(8), 2);
        Due.is("lay of item -1", x.lay(0, 1, -1, 0), INDEX);
        Due.is("get of a lost one", x.get(1, 0, 99), LEAST);
        Due.is("finding", x.count(8), 1);
        Due.is("get of another form", x.get(0, 2, 99), LEAST);
        Due.is("finding", x.count(8), 3);
        Due.is("get of no such item", x.get(0, 1, 3), LEAST);
        Due.is("finding", x.count(8), 2);
        Due.is("get of item -1", x.get(0, 1, -1), LEAST);
        Due.is("get", x.get(0, 1, 2), 0);
        Due.is("the finding stays", x.count(8), 2);
        Due.is("BAD leaves it", x.get(9, 0, 0), LEAST);
        Due.is("the finding stays", x.count(8), 2);
        x.sheet(0, 1, 0);
        Due.is("an empty one has no item", x.lay(0, 1, 0, 0), INDEX);
    }

    private static HabitWill counted(int form) {
        HabitWill x = new HabitWill();
        x.sheet(0, form, 6);
        x.sheet(1, form, 4);
        for (int i = 0; i < 6; i++) {
            x.lay(0, form, i, i + 1);
        }
        return x;
    }

    private static void row(HabitWill x, int s, int form, int... want) {
        for (int i = 0; i < want.length; i++) {
            Due.is("item " + i, x.get(s, form, i), want[i]);
        }
    }

    private static void copies() {
        for (int form = 0; form < 3; form++) {
            HabitWill x = counted(form);
            Due.is("copy to another", x.copy(0, 2, 1, 1, 3), 1);
            row(x, 1, form, 0, 3, 4, 5);
            row(x, 0, form, 1, 2, 3, 4, 5, 6);
            Due.is("copy on, over itself", x.copy(0, 0, 0, 1, 5), 1);
            row(x, 0, form, 1, 1, 2, 3, 4, 5);
            Due.is("copy back, over itself", x.copy(0, 2, 0, 0, 4), 1);
            row(x, 0, form, 2, 3, 4, 5, 4, 5);
            Due.is("copy of the whole row", x.copy(1, 0, 0, 2, 4), 1);
            row(x, 0, form, 2, 3, 0, 3, 4, 5);
            Due.is("copy of the whole row to itself", x.copy(0, 0, 0, 0, 6), 1);
            row(x, 0, form, 2, 3, 0, 3, 4, 5);
            Due.is("copy of none, at the ends", x.copy(0, 6, 1, 4, 0), 1);
            Due.is("no finding", x.count(8), 0);
        }
    }

    private static void copyFindings() {
        HabitWill x = counted(1);
        x.sheet(2, 0, 6);
        Due.is("s is 4", x.copy(4, 0, 1, 0, 1), HabitWill.BAD);
        Due.is("t is 4", x.copy(3, 0, 4, 0, 1), HabitWill.BAD);
        Due.is("s is -1", x.copy(-1, 0, 1, 0, 1), HabitWill.BAD);
        Due.is("t is -1", x.copy(0, 0, -1, 0, 1), HabitWill.BAD);
        Due.is("s is lost", x.copy(3, 9, 1, 0, 99), NULL);
        Due.is("t is lost", x.copy(0, 9, 3, 0, 99), NULL);
        Due.is("unlike forms", x.copy(0, -1, 2, 0, -1), STORE);
        Due.is("its finding", x.count(8), 4);
        Due.is("i below 0", x.copy(0, -1, 1, 0, 1), INDEX);
        Due.is("j below 0", x.copy(0, 0, 1, -1, 1), INDEX);
        Due.is("n below 0", x.copy(0, 0, 1, 0, -1), INDEX);
        Due.is("not so many in s", x.copy(1, 2, 0, 0, 3), INDEX);
        Due.is("not so many in t", x.copy(0, 0, 1, 2, 3), INDEX);
        Due.is("i behind the end", x.copy(0, 7, 1, 0, 0), INDEX);
        Due.is("largest i", x.copy(0, Integer.MAX_VALUE, 1, 0, 1), INDEX);
        Due.is("largest n", x.copy(0, 1, 1, 1, Integer.MAX_VALUE), INDEX);
        Due.is("least n", x.copy(0, 1, 1, 1, LEAST), INDEX);
        Due.is("its finding", x.count(8), 2);
        row(x, 0, 1, 1, 2, 3, 4, 5, 6);
        row(x, 1, 1, 0, 0, 0, 0);
    }

    private static void hoursOfHeirs() {
        for (int form = 0; form < 3; form++) {
            HabitWill x = Due.estate("x35..;b39..", "8mm;8mm", "0+0;1+0");
            Due.is("of a lost sheet", x.hours(0, 2), NULL);
            Due.is("its finding", x.count(8), 1);
            x.sheet(2, form, 60);
            x.lay(2, form, 24, 99);
            Due.is("24 at most", x.hours(0, 2), 24);
            for (int hour = 0; hour < 24; hour++) {
                int want = hour == 23 || hour == 0 ? 0 : hour >= 1 && hour <= 3 ? 1 : -1;
                Due.is("hour " + hour, x.get(2, form, hour), want);
            }
            Due.is("behind them nothing changes", x.get(2, form, 24), 99);
            x.sheet(2, form, 3);
            Due.is("as many as there are", x.hours(0, 2), 3);
            row(x, 2, form, 0, 1, 1);
            Due.is("of heir 1", x.hours(1, 2), 3);
            row(x, 2, form, -1, -1, -1);
            x.sheet(2, form, 0);
            Due.is("none", x.hours(0, 2), 0);
        }
        HabitWill x = Due.estate("x35..", "8mm", "0+0");
        Due.is("heir 1", x.hours(1, 0), HabitWill.BAD);
        Due.is("heir -1", x.hours(-1, 0), HabitWill.BAD);
        Due.is("sheet 4", x.hours(0, 4), HabitWill.BAD);
        Due.is("sheet -1", x.hours(0, -1), HabitWill.BAD);
        Due.is("no finding by BAD", x.count(8), 0);
    }
}
