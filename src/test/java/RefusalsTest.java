/** Promises 9 to 11: refusals, and what days are worth. */
public final class RefusalsTest {
    public static void main(String[] args) {
        badRefusals();
        refusalsTillFull();
        refusalsStopClauses();
        values();
        Due.end();
    }

    private static void badRefusals() {
        HabitWill x = new HabitWill();
        Due.is("heir 6", x.refuse(6, 0), HabitWill.BAD);
        Due.is("heir -1", x.refuse(-1, 0), HabitWill.BAD);
        Due.is("habit 8", x.refuse(0, 8), HabitWill.BAD);
        Due.is("habit -1", x.refuse(0, -1), HabitWill.BAD);
        Due.is("none came of it", x.count(6), 0);
        Due.is("back of none", x.back(), HabitWill.NOT);
    }

    private static void refusalsTillFull() {
        HabitWill x = new HabitWill();
        for (int n = 1; n <= 12; n++) {
            Due.is("the " + n + "th, alike or not", x.refuse(n % 6, n < 6 ? 7 : 0), n);
        }
        Due.is("the thirteenth", x.refuse(0, 0), HabitWill.FULL);
        Due.is("BAD comes ahead of FULL", x.refuse(0, 8), HabitWill.BAD);
        for (int n = 11; n >= 0; n--) {
            Due.is("back", x.back(), n);
            Due.is("count of them", x.count(6), n);
        }
        Due.is("back of none", x.back(), HabitWill.NOT);
    }

    private static void refusalsStopClauses() {
        HabitWill x = Due.estate("a15..;c15..", "8aa;8aa", "0+0;0+1;1+1;1-1;1+0");
        Due.is("0 by the will", x.with(0), 1);
        Due.is("1 by the will", x.with(1), 0);
        x.refuse(1, 0);
        Due.is("refused: it stays with the one who had it", x.with(0), 0);
        Due.is("refused: that clause does nothing", x.done(), 1 | 4 | 8 | 16);
        x.refuse(1, 1);
        Due.is("refused: nor does the one that undoes it", x.done(), 1 | 16);
        x.refuse(0, 0);
        Due.is("refused by both", x.with(0), HabitWill.NONE);
        Due.is("the last is undone", x.back(), 2);
        Due.is("so it is with him again", x.with(0), 0);
        x.refuse(0, 0);
        x.refuse(0, 0);
        x.back();
        Due.is("one of two alike still stands", x.with(0), HabitWill.NONE);
        x.refuse(5, 7);
        Due.is("one may refuse who is not there", x.count(6), 4);
    }

    private static void values() {
        HabitWill x = new HabitWill();
        for (int heir = 0; heir < 6; heir++) {
            for (int day = 0; day < 7; day++) {
                Due.is("at first", x.value(heir, day, (heir + day) % 10), 1);
            }
        }
        for (int heir = 0; heir < 6; heir++) {
            for (int day = 0; day < 7; day++) {
                Due.is("what it was", x.value(heir, day, 9), (heir + day) % 10);
            }
        }
        Due.is("heir 6", x.value(6, 0, 1), HabitWill.BAD);
        Due.is("heir -1", x.value(-1, 0, 1), HabitWill.BAD);
        Due.is("day 7", x.value(0, 7, 1), HabitWill.BAD);
        Due.is("day -1", x.value(1, -1, 1), HabitWill.BAD);
        Due.is("value 10", x.value(0, 0, 10), HabitWill.BAD);
        Due.is("value -1", x.value(0, 0, -1), HabitWill.BAD);
        Due.is("a refusal changes nothing", x.value(0, 0, 0), 9);
        Due.is("nor one of another day", x.value(0, 6, 0), 9);
    }
}
