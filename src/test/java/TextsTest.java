/** Promises 1 to 8: a new object, and what the three texts tell. */
public final class TextsTest {
    private static final int[] MOST = {47, 23, 59};

    public static void main(String[] args) {
        newObject();
        typeTillFull();
        badTexts();
        wipeAndUndo();
        faultsOfHabits();
        faultsOfHeirs();
        faultsOfTheWill();
        whatHabitsTell();
        whatHeirsTell();
        whatClausesTell();
        Due.end();
    }

    private static void newObject() {
        HabitWill x = new HabitWill();
        for (int what = 0; what <= 8; what++) {
            Due.is("new: count " + what, x.count(what), 0);
        }
        for (int text = 0; text < 3; text++) {
            Due.is("new: fault " + text, x.fault(text), HabitWill.NONE);
            Due.is("new: undo " + text, x.undo(text), HabitWill.NOT);
            Due.is("new: wipe " + text, x.wipe(text), 0);
        }
        for (int s = 0; s < 4; s++) {
            Due.is("new: lose " + s, x.lose(s), -11);
        }
        Due.is("new: done", x.done(), 0);
        Due.is("new: best", x.best(HabitWill.NONE), 0);
        Due.is("new: back", x.back(), HabitWill.NOT);
        Due.is("new: forget", x.forget(), 0);
    }

    private static void typeTillFull() {
        for (int text = 0; text < 3; text++) {
            HabitWill x = new HabitWill();
            for (int n = 1; n <= MOST[text]; n++) {
                Due.is("type " + text + " for the " + n + "th time", x.type(text, n == 1 ? 0 : 255), n);
            }
            Due.is("type into a full text " + text, x.type(text, 97), HabitWill.FULL);
            Due.is("BAD comes ahead of FULL", x.type(text, 256), HabitWill.BAD);
            Due.is("bytes of a full text", x.count(3 + text), MOST[text]);
            Due.is("undo of a full text", x.undo(text), MOST[text] - 1);
            Due.is("type behind undo", x.type(text, 97), MOST[text]);
        }
    }

    private static void badTexts() {
        HabitWill x = new HabitWill();
        int[] bad = {-1, 3, Integer.MIN_VALUE, Integer.MAX_VALUE};
        for (int text : bad) {
            Due.is("type of text " + text, x.type(text, 97), HabitWill.BAD);
            Due.is("wipe of text " + text, x.wipe(text), HabitWill.BAD);
            Due.is("undo of text " + text, x.undo(text), HabitWill.BAD);
            Due.is("fault of text " + text, x.fault(text), HabitWill.BAD);
        }
        Due.is("type byte -1", x.type(0, -1), HabitWill.BAD);
        Due.is("type byte 256", x.type(0, 256), HabitWill.BAD);
        Due.is("type least int", x.type(0, Integer.MIN_VALUE), HabitWill.BAD);
        Due.is("a refusal changes nothing", x.count(3), 0);
        Due.is("type byte 255", x.type(0, 255), 1);
        Due.is("type byte 0", x.type(0, 0), 2);
    }

    private static void wipeAndUndo() {
        HabitWill x = Due.estate("a15.!;b26..", "1ab;2cd", "0+0;1+1");
        Due.is("wipe habits", x.wipe(0), 11);
        Due.is("wipe habits again", x.wipe(0), 0);
        Due.is("habits are gone", x.count(0), 0);
        Due.is("heirs stay", x.count(1), 2);
        Due.is("undo an heir's sign", x.undo(1), 6);
        Due.is("text 1 has a fault", x.fault(1), 6);
        Due.is("with a fault there are none", x.count(1), 0);
        Due.is("undo", x.undo(1), 5);
        Due.is("undo", x.undo(1), 4);
        Due.is("undo", x.undo(1), 3);
        Due.is("text 1 is well again", x.count(1), 1);
        Due.is("undo of the will", x.undo(2), 6);
        Due.is("no clauses by a fault", x.count(2), 0);
        Due.is("type it again", x.type(2, '0'), 7);
        Due.is("two clauses again", x.count(2), 2);
        Due.is("the last heir is another", x.clause(1, 2), 0);
        Due.is("undo of an empty text", x.undo(0), HabitWill.NOT);
    }

    private static void fault(int text, String signs, int want) {
        HabitWill x = new HabitWill();
        Due.typeAll(x, text, signs);
        Due.is("fault of " + signs, x.fault(text), want);
        Due.is("rows of " + signs + " where there is a fault", want == HabitWill.NONE || x.count(text) == 0 ? 1 : 0, 1);
    }

    private static void faultsOfHabits() {
        fault(0, "", -1);
        fault(0, "a", 1);
        fault(0, "a1", 2);
        fault(0, "a10", 3);
        fault(0, "a10.", 4);
        fault(0, "a10..", -1);
        fault(0, "x99.!", -1);
        fault(0, "`10..", 0);
        fault(0, "y10..", 0);
        fault(0, "A10..", 0);
        fault(0, ";", 0);
        fault(0, "a00..", 1);
        fault(0, "a:0..", 1);
        fault(0, "a1/..", 2);
        fault(0, "a1:..", 2);
        fault(0, "a108.", 3);
        fault(0, "a10!.", 3);
        fault(0, "a107.", -1);
        fault(0, "a100.", -1);
        fault(0, "a10.7", 4);
        fault(0, "a10..;", 6);
        fault(0, "a10..:", 5);
        fault(0, "a10..a", 5);
        fault(0, "a10..;;", 6);
        fault(0, "a10..;a10.!;a1", 14);
        fault(0, "a10..;b10..;c10..;d10..;e10..;f10..;g10..;h10.", 46);
        fault(0, "a10..;b10..;c10..;d10..;e10..;f10..;g10..;h10..", -1);
    }

    private static void faultsOfHeirs() {
        fault(1, "", -1);
        fault(1, "1", 1);
        fault(1, "1a", 2);
        fault(1, "1aa", -1);
        fault(1, "8xx", -1);
        fault(1, "0aa", 0);
        fault(1, "9aa", 0);
        fault(1, "1ya", 1);
        fault(1, "1`a", 1);
        fault(1, "1ay", 2);
        fault(1, "1aaa", 3);
        fault(1, "1aa;", 4);
        fault(1, "1aa;2", 5);
        fault(1, "1aa;2ab;3ac;4ad;5ae;6af", -1);
    }

    private static void faultsOfTheWill() {
        fault(2, "", -1);
        fault(2, "0", 1);
        fault(2, "0+", 2);
        fault(2, "0+0", -1);
        fault(2, "7-5", -1);
        fault(2, "8+0", 0);
        fault(2, "/+0", 0);
        fault(2, "0*0", 1);
        fault(2, "0,0", 1);
        fault(2, "0+6", 2);
        fault(2, "0+0?", 4);
        fault(2, "0+0?7", -1);
        fault(2, "0+0?8", 4);
        fault(2, "0+0?7?7", 5);
        fault(2, "0+0!", 3);
        fault(2, "0+0;", 4);
        fault(2, "0+0;0+1?", 8);
        fault(2, "0+0;0+0;0+0;0+0;0+0;0+0;0+0;0+0;0+0;0+0;0+0;0+0;0+0;0+0;0+0", -1);
        fault(2, "0+0?0;0+0?0;0+0?0;0+0?0;0+0?0;0+0?0;0+0?0;0+0?0;0+0?0;0+0?0", -1);
    }

    private static void row(String what, int[] got, int... want) {
        for (int i = 0; i < want.length; i++) {
            Due.is(what + " at " + i, got[i], want[i]);
        }
    }

    private static int[] habitRow(HabitWill x, int habit) {
        int[] row = new int[6];
        for (int what = 0; what < 6; what++) {
            row[what] = x.habit(habit, what);
        }
        return row;
    }

    private static void whatHabitsTell() {
        HabitWill x = Due.estate("a15.!;x907.;e1900;b26.;", "", "");
        x.undo(0);
        row("a text with a fault", habitRow(x, 0), -2, -2, -2, -2, -2, -2);
        x = Due.estate("a15.!;x907.;e190.;b260!", "", "");
        row("habit 0", habitRow(x, 0), 0, 1, 5, -1, 1, -2);
        row("habit 1", habitRow(x, 1), 23, 9, 0, 7, 0, -2);
        row("habit 2", habitRow(x, 2), 4, 1, 9, 0, 0, -2);
        row("habit 3", habitRow(x, 3), 1, 2, 6, 0, 1, -2);
        row("habit 4", habitRow(x, 4), -2, -2, -2, -2, -2, -2);
        Due.is("habit -1", x.habit(-1, 0), HabitWill.BAD);
        Due.is("habit what -1", x.habit(0, -1), HabitWill.BAD);
        Due.is("habit largest", x.habit(Integer.MAX_VALUE, 0), HabitWill.BAD);
        x = Due.estate("a10..;b10..;c10..;d10..;e10..;f10..;g10..;h30..", "", "");
        Due.is("habit 7", x.habit(7, 1), 3);
        Due.is("habit 8", x.habit(8, 1), HabitWill.BAD);
    }

    private static void whatHeirsTell() {
        HabitWill x = Due.estate("", "1ab;8xa;3cc;4ad;5ae;6fx", "");
        int[][] want = {{1, 0, 1}, {8, 23, 0}, {3, 2, 2}, {4, 0, 3}, {5, 0, 4}, {6, 5, 23}};
        for (int heir = 0; heir < 6; heir++) {
            for (int what = 0; what < 3; what++) {
                Due.is("heir " + heir + ", " + what, x.heir(heir, what), want[heir][what]);
            }
            Due.is("heir " + heir + ", 3", x.heir(heir, 3), HabitWill.BAD);
            Due.is("heir " + heir + ", -1", x.heir(heir, -1), HabitWill.BAD);
        }
        Due.is("heir 6", x.heir(6, 0), HabitWill.BAD);
        Due.is("heir -1", x.heir(-1, 0), HabitWill.BAD);
        x.undo(1);
        Due.is("heir 0 of a text with a fault", x.heir(0, 0), HabitWill.BAD);
    }

    private static void whatClausesTell() {
        HabitWill x = Due.estate("", "", "0+5;7-0?7;3-2;4+1?0");
        int[][] want = {{0, 1, 5, -1}, {7, 0, 0, 7}, {3, 0, 2, -1}, {4, 1, 1, 0}};
        for (int clause = 0; clause < 4; clause++) {
            for (int what = 0; what < 4; what++) {
                Due.is("clause " + clause + ", " + what, x.clause(clause, what), want[clause][what]);
            }
            Due.is("clause " + clause + ", 4", x.clause(clause, 4), HabitWill.BAD);
            Due.is("clause " + clause + ", -1", x.clause(clause, -1), HabitWill.BAD);
        }
        Due.is("clause 4", x.clause(4, 0), HabitWill.BAD);
        Due.is("clause -1", x.clause(-1, 0), HabitWill.BAD);
        x = Due.estate("", "", "0+0;0+0;0+0;0+0;0+0;0+0;0+0;0+0;0+0;0+0;0+0;0+0;0+0;0+0;6-4");
        Due.is("the fifteenth clause", x.clause(14, 0), 6);
        Due.is("the sixteenth clause", x.clause(15, 0), HabitWill.BAD);
    }
}
