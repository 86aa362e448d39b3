/** Promises 17 to 19: the best plan, the fewest refusals, a habit parted by days. */
public final class PlansTest {
    public static void main(String[] args) {
        bestRows();
        bestForgetsNothing();
        badBest();
        writes();
        parts();
        badParts();
        Due.end();
    }

    private static void best(String habits, String heirs, int worth, int... row) {
        HabitWill x = Due.estate(habits, heirs, "");
        Due.is("best of " + habits + " " + heirs, x.best(HabitWill.NONE), worth);
        for (int i = 0; i < 6; i++) {
            Due.is("best of " + habits + " " + heirs + " at " + i, x.best(i), i < row.length ? row[i] : HabitWill.NONE);
        }
    }

    private static void bestRows() {
        best("", "", 0);
        best("a15..", "", 0);
        best("", "8mm", 0);
        best("a15..;b15..", "8mm;8mm", 10, 0, 0);
        best("a10..;a10..", "8mm;8mm;8mm", 0, 0, 1);
        best("a10..;a10..;a10..", "8mm;8mm", 0, 0, 1, -1);
        best("a13..;a15..;a14..", "1mm;1mm", 9, -1, 0, 1);
        best("a13..;c13..;e13..", "1mm;1mm", 6, 0, 1, -1);
        best("a95..;b13..;c13..;d13..", "8mm", 9, -1, 0, 0, 0);
        best("a950.;b131.;c13..", "1ab;8mm", 8, 1, 0, -1);
        best("a157.;b156.;c150.", "8mm", 0, -1, -1, -1);
        best("a151.;b150.;c152.", "8mm;1mm", 15, 0, 0, 0);
        best("a151.;b150.", "1mm;1mm", 0, -1, -1);
        best("a15..;b15..", "8ac;8xb", 5, -1, 1);
        best("a15..;a15..;a15..;a15..;a15..", "8mm;8mm;8mm;8mm;8mm;8mm", 20, 0, 1, 2, 3, -1);
        best("a15..;b15..;c15..;d15..;e15..;f15..;g15..;h19..", "8mm", 30, 0, 0, 0, 0, 0, 0);
        best("a156.;b15..;c15..;d15..;e15..;f15..;g15..", "8mm", 25, -1, 0, 0, 0, 0, 0);
    }

    private static void bestForgetsNothing() {
        HabitWill x = Due.estate("a15..;a14..", "8mm", "1+0");
        Due.is("best", x.best(-1), 5);
        x.refuse(0, 0);
        Due.is("refusals do not bind it", x.best(-1), 5);
        Due.typeAll(x, 1, ";8mm");
        Due.is("with one heir more", x.best(-1), 9);
        Due.is("with one heir more, 1", x.best(1), 1);
        x.undo(0);
        Due.is("habits with a fault", x.best(-1), 0);
        Due.is("habits with a fault, 0", x.best(0), HabitWill.NONE);
        x.type(0, '!');
        Due.is("well again", x.best(-1), 9);
        x.wipe(1);
        Due.is("no heirs", x.best(-1), 0);
    }

    private static void badBest() {
        HabitWill x = Due.estate("a15..", "8mm", "");
        int[] bad = {-2, 6, 7, Integer.MIN_VALUE, Integer.MAX_VALUE};
        for (int i : bad) {
            Due.is("best of " + i, x.best(i), HabitWill.BAD);
        }
    }

    private static void write(String habits, String heirs, String will, int heir, int howMany, int bits) {
        HabitWill x = Due.estate(habits, heirs, will);
        Due.is("write of " + will, x.write(heir, 0), howMany);
        Due.is("write of " + will + ", bits", x.write(heir, 1), bits);
        Due.is("nothing is written yet", x.count(6), 0);
    }

    private static void writes() {
        write("a15..;c15..", "8mm", "0+0;1+0", 0, 0, 0);
        write("a15..;a15..", "8mm", "0+0;1+0", 0, 1, 1);
        write("a15..;c15..;e15..;g15..", "2mm", "0+0;1+0;2+0;3+0", 0, 2, 3);
        write("a15..;c150.", "8ab;8mm", "0+0;1+0", 0, 2, 3);
        write("a15..;c150.", "8ab;8mm", "0+0;1+0", 1, 0, 0);
        // by refusing 2 the clause that asks for it does nothing, and 0 does not come to him
        write("a15..;a15..;c15..", "8mm", "1+0;2+0;0+0?2", 0, 1, 1);
        write("a15..;a15..;c15..;a15..", "8mm", "1+0;2+0;0+0?2;3+0?2", 0, 1, 4);
        // a habit that he refuses stays with the one ahead of him
        write("a15..;a15..", "8mm;8mm", "0+1;0+0;1+0", 0, 1, 1);
        write("a15..;a15..;a15..;a15..;a15..;a15..;a15..;a151.", "8mm", "0+0;1+0;2+0;3+0;4+0;5+0;6+0;7+0", 0, 7, 191);
        HabitWill x = Due.estate("a15..;a15..;a15..", "8mm", "0+0;1+0;2+0");
        x.refuse(0, 0);
        Due.is("more than those that stand", x.write(0, 0), 1);
        Due.is("more than those that stand, bits", x.write(0, 1), 2);
        Due.is("the will is as it was", x.has(0, 0), 6);
        Due.is("write what 2", x.write(0, 2), HabitWill.BAD);
        Due.is("write what -1", x.write(0, -1), HabitWill.BAD);
        Due.is("write of heir 1", x.write(1, 0), HabitWill.BAD);
        Due.is("write of heir -1", x.write(-1, 0), HabitWill.BAD);
    }

    private static HabitWill valued(String a, String b) {
        HabitWill x = new HabitWill();
        for (int day = 0; day < 7; day++) {
            x.value(2, day, a.charAt(day) - '0');
            x.value(5, day, b.charAt(day) - '0');
        }
        return x;
    }

    private static void part(String a, String b, int bits, int much) {
        HabitWill x = valued(a, b);
        Due.is("part of " + a + " " + b, x.part(2, 5, 0), bits);
        Due.is("part of " + a + " " + b + ", how much", x.part(2, 5, 1), much);
    }

    private static void parts() {
        part("1111111", "1111111", -1, -1);
        part("0000000", "0000000", 0, 0);
        part("1111110", "1111110", 7, 6);
        part("9000000", "0000009", 1, 18);
        part("0000009", "9000000", 64, 18);
        part("9000000", "9000000", -1, -1);
        part("9000000", "0000000", 1, 9);
        part("0000000", "0000009", 0, 9);
        part("1111119", "1111111", 64, 15);
        part("1111111", "0000000", 127, 7);
        part("0000000", "1111111", 0, 7);
        part("5000005", "5500000", 64, 15);
        // neither envies goes ahead of most together
        part("9900000", "1100000", 1, 10);
        HabitWill x = valued("9000000", "0000009");
        Due.is("the other way round", x.part(5, 2, 0), 64);
        Due.is("the other way round, how much", x.part(5, 2, 1), 18);
    }

    private static void badParts() {
        HabitWill x = Due.estate("a15..", "8mm;8mm", "");
        Due.is("one twice", x.part(1, 1, 0), HabitWill.BAD);
        Due.is("a is 6", x.part(6, 1, 0), HabitWill.BAD);
        Due.is("b is 6", x.part(1, 6, 0), HabitWill.BAD);
        Due.is("a is -1", x.part(-1, 1, 0), HabitWill.BAD);
        Due.is("b is -1", x.part(1, -1, 0), HabitWill.BAD);
        Due.is("what is 2", x.part(0, 1, 2), HabitWill.BAD);
        Due.is("what is -1", x.part(0, 1, -1), HabitWill.BAD);
        Due.is("of who is not there", x.part(4, 5, 0), HabitWill.NONE);
    }
}
