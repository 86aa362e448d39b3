/** Promises 12 to 16: who has what by the will, what he does, and quarrels. */
public final class ByTheWillTest {
    public static void main(String[] args) {
        withWhom();
        ifs();
        cannot();
        lives();
        doesHourByHour();
        doneBits();
        quarrels();
        badArguments();
        Due.end();
    }

    private static void withWhom() {
        HabitWill x = Due.estate("a15..;c15..;e15..", "8aa;8aa", "0+0;1+1;1-0;0-0;0+5;7+0;2+1;2-1;2-1");
        Due.is("undone by its own one", x.with(0), HabitWill.NONE);
        Due.is("not undone by another", x.with(1), 1);
        Due.is("undone", x.with(2), HabitWill.NONE);
        Due.is("has, of heir 0", x.has(0, 0), 0);
        Due.is("has, of heir 1", x.has(1, 0), 2);
        Due.is("clauses of who is not there do nothing", x.done(), 1 | 2 | 8 | 64 | 128);
    }

    private static void ifs() {
        HabitWill x = Due.estate("a15..;c15..;e15..", "8aa;8aa", "0+0?0;1+1?0;1+0;0+1?1;1-0?1;2+0?1;2+1?7;2+0?0");
        Due.is("it asks for itself, with nobody; later for one that is there", x.with(0), 1);
        Due.is("undone if it is with somebody", x.with(1), HabitWill.NONE);
        Due.is("asks for one that is not there", x.with(2), 0);
        Due.is("done", x.done(), 4 | 8 | 16 | 128);
    }

    private static void cannot() {
        HabitWill x = Due.estate("w45..;d110.;e12..;f133.;g145.;h157.;u10..", "8be;8da", "0+0;1+0;2+0;3+0;4+0;5+0;6+1");
        // heir 0 is away in hours 1 to 3: habit 0 is at 22, 23, 0, 1; habit 1 at 3; habit 2 at 4
        Due.is("has", x.has(0, 0), 63);
        Due.is("away, and leans on who is not with him or there", x.has(0, 1), 1 | 2 | 32);
        Due.is("worth of all that he has, the ones too that he cannot", x.has(0, 2), 5 + 1 + 2 + 3 + 4 + 5);
        Due.is("past midnight", x.has(1, 1), 64);
        x = Due.estate("w45..;d110.;e12..;f13..", "8be;8ee", "0+1;1+1;2+1;3+1");
        Due.is("alike: never away", x.has(1, 1), 0);
        x = Due.estate("w450.;b15..;v15..", "8bw", "0+0;1+0;2+0");
        Due.is("away till ahead of the second, from the first on", x.has(0, 1), 1 | 2 | 4);
        x = Due.estate("w15..;a15..;v15..;b15..", "8wb", "0+0;1+0;2+0;3+0");
        Due.is("away past midnight", x.has(0, 1), 1 | 2);
        x = Due.estate("a150.;b151.;c150.", "8xx;8xx", "0+0;1+0;2+1");
        Due.is("one may lean on itself", x.has(0, 1), 0);
        Due.is("it leans on one of another heir", x.has(1, 1), 1 << 2);
    }

    private static void lives() {
        HabitWill x = Due.estate("a15..;b15..;c15..", "2mm", "0+0;1+0");
        Due.is("as many as there is room for", x.has(0, 3), 1);
        Due.typeAll(x, 2, ";2+0");
        Due.is("one too many", x.has(0, 3), 0);
        x = Due.estate("x25..;a15..", "8mm", "0+0;1+0");
        Due.is("two that bar each other past midnight", x.has(0, 3), 0);
        x = Due.estate("x15..;a15..", "8mm", "0+0;1+0");
        Due.is("two side by side", x.has(0, 3), 1);
        x = Due.estate("x25..;a15..", "8mm;8mm", "0+0;1+1");
        Due.is("two of two heirs", x.has(0, 3) + x.has(1, 3), 2);
        x = Due.estate("a151.", "8mm", "0+0");
        Due.is("one that he cannot have", x.has(0, 3), 0);
        x = Due.estate("", "1aa", "");
        Due.is("one without habits", x.has(0, 3), 1);
    }

    private static void doesHourByHour() {
        HabitWill x = Due.estate("a95..;c27..;d27..;h90..;x19..", "8xa;1aa", "0+0;1+0;2+0;3+0;4+0");
        int[] want = {0, 0, 1, 1, 2, 0, 0, 0, 0, 3, 3, 3, 3, 3, 3, 3, -1, -1, -1, -1, -1, -1, -1, -1};
        for (int hour = 0; hour < 24; hour++) {
            Due.is("does in hour " + hour, x.does(0, hour), want[hour]);
            Due.is("does nothing in hour " + hour, x.does(1, hour), HabitWill.NONE);
        }
        x = Due.estate("w45..", "8mm", "0+0");
        int bits = 0;
        for (int hour = 0; hour < 24; hour++) {
            bits |= x.does(0, hour) == 0 ? 1 << hour : 0;
        }
        Due.is("hours past midnight", bits, 1 << 22 | 1 << 23 | 1 | 2);
    }

    private static void doneBits() {
        HabitWill x = Due.estate("a15..;b15..", "8mm;8mm", "0+0;0+0;0+1;0-0;0-1;0-1;1-0;0+0");
        Due.is("only what changes with whom it is", x.done(), 1 | 4 | 16 | 128);
        x.wipe(1);
        Due.is("without heirs", x.done(), 0);
        x = Due.estate("a15..", "8mm;8mm", "0+0;0+1;0+0;0+1;0+0;0+1;0+0;0+1;0+0;0+1;0+0;0+1;0+0;0+1;0+0");
        Due.is("fifteen of them", x.done(), 0x7fff);
    }

    private static void quarrel(HabitWill x, int... want) {
        for (int what = 0; what < 4; what++) {
            Due.is("quarrel " + what, x.quarrel(what), want[what]);
        }
    }

    private static void quarrels() {
        quarrel(Due.estate("a15..;a15..", "8mm;8mm", "0+0;1+1"), -1, -1, -1, -1);
        quarrel(Due.estate("c35..;e15..", "8mm", "0+0;1+0"), 4, 0, 0, 1);
        quarrel(Due.estate("x25..;a15..", "8mm", "0+0;1+0"), 0, 0, 0, 1);
        quarrel(Due.estate("c35..;e15..;e15..;d15..", "8mm;8mm;8mm", "0+2;1+1;2+1;3+2"), 3, 2, 0, 3);
        quarrel(Due.estate("e15..;e15..;e15..;e15..;e15..", "8mm;8mm;8mm", "0+2;4+2;1+1;2+1;3+1"), 4, 1, 1, 2);
        quarrel(Due.estate("e15..;m15..;e15..;e150.", "8ef", "1+0;2+0;3+0"), 4, 0, 2, 3);
        quarrel(new HabitWill(), -1, -1, -1, -1);
    }

    private static void badArguments() {
        HabitWill x = Due.estate("a15..;b15..", "8mm;8mm", "0+0;1+1");
        int[] badHabits = {-1, 2, 8, Integer.MAX_VALUE, Integer.MIN_VALUE};
        for (int bad : badHabits) {
            Due.is("with of " + bad, x.with(bad), HabitWill.BAD);
            Due.is("has of " + bad, x.has(bad, 0), HabitWill.BAD);
            Due.is("does of " + bad, x.does(bad, 0), HabitWill.BAD);
        }
        Due.is("has what 4", x.has(0, 4), HabitWill.BAD);
        Due.is("has what -1", x.has(0, -1), HabitWill.BAD);
        Due.is("does at 24", x.does(0, 24), HabitWill.BAD);
        Due.is("does at -1", x.does(0, -1), HabitWill.BAD);
        Due.is("quarrel 4", x.quarrel(4), HabitWill.BAD);
        Due.is("quarrel -1", x.quarrel(-1), HabitWill.BAD);
    }
}
