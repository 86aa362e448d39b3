/** Promises 33 and 34: counts and the digest. */
public final class DigestTest {
    public static void main(String[] args) {
        counts();
        digestOfNothing();
        digests();
        Due.end();
    }

    private static void counts() {
        HabitWill x = Due.estate("a15..;b15..;c15..", "8mm;8mm", "0+0;1+1;2+1?0;2-1");
        x.refuse(0, 0);
        x.seen(0, 0, 0);
        x.seen(0, 0, 0);
        int[] want = {3, 2, 4, 17, 7, 17, 1, 2, 0};
        for (int what = 0; what <= 8; what++) {
            Due.is("count " + what, x.count(what), want[what]);
        }
        x.lose(0);
        Due.is("count 8", x.count(8), 1);
        x.type(0, ';');
        Due.is("no habits by a fault", x.count(0), 0);
        Due.is("bytes all the same", x.count(3), 18);
        Due.is("count 9", x.count(9), HabitWill.BAD);
        Due.is("count -1", x.count(-1), HabitWill.BAD);
    }

    private static void digestOfNothing() {
        long h = 17;
        int[] each = {0, 0, 0, 0, 0, 0, 0, 0, -1, -1, -1, 0, -1, -1, -1, -1, 0, -1};
        for (int next : each) {
            h = 31 * h + next;
        }
        Due.is("digest of a new object", new HabitWill().digest(), h);
    }

    private static long digestByCalls(HabitWill x) {
        long h = 17;
        for (int what = 0; what <= 7; what++) {
            h = 31 * h + x.count(what);
        }
        for (int text = 0; text < 3; text++) {
            h = 31 * h + x.fault(text);
        }
        for (int habit = 0; habit < x.count(0); habit++) {
            for (int what = 0; what <= 4; what++) {
                h = 31 * h + x.habit(habit, what);
            }
            h = 31 * h + x.with(habit);
            h = 31 * h + x.whose(habit);
            h = 31 * h + x.look(habit, 0);
        }
        for (int heir = 0; heir < x.count(1); heir++) {
            h = digestOfHeir(x, heir, h);
        }
        for (int clause = 0; clause < x.count(2); clause++) {
            for (int what = 0; what <= 3; what++) {
                h = 31 * h + x.clause(clause, what);
            }
        }
        h = 31 * h + x.done();
        for (int what = 0; what <= 3; what++) {
            h = 31 * h + x.quarrel(what);
        }
        h = 31 * h + x.best(-1);
        return 31 * h + x.best(0);
    }

    private static long digestOfHeir(HabitWill x, int heir, long start) {
        long h = start;
        for (int what = 0; what <= 2; what++) {
            h = 31 * h + x.heir(heir, what);
        }
        for (int what = 0; what <= 3; what++) {
            h = 31 * h + x.has(heir, what);
        }
        for (int hour : new int[] {0, 7, 20}) {
            h = 31 * h + x.does(heir, hour);
        }
        h = 31 * h + x.write(heir, 0);
        h = 31 * h + x.write(heir, 1);
        h = 31 * h + x.part(0, heir, 0);
        h = 31 * h + x.part(0, heir, 1);
        h = 31 * h + x.march(5, heir, 1, 0);
        h = 31 * h + x.march(5, heir, 1, 1);
        return 31 * h + x.wills(7, 9, heir);
    }

    private static void digests() {
        String[][] texts = {
            {"a15.!;b25..;c150!", "8mm;2ab;1xa", "0+0;1+1;2+0?1;1-1"},
            {"a15.!;b25..", "", "0+0"},
            {"", "8mm;2ab", "0+0"},
            {"u35.!;h79..;a150!;t190.;g25.!;x983.;v17.!;e95.!", "8mm;2ab;1xa;3aa;4wx;8cb", "0+0;1+1;2+2;3+3;4+4;5+5;6+0;7+1?6"},
        };
        for (String[] t : texts) {
            HabitWill x = Due.estate(t[0], t[1], t[2]);
            Due.is("digest of " + t[0], x.digest(), digestByCalls(x));
            x.refuse(1, 1);
            x.value(1, 3, 0);
            x.seen(3, 0, -1);
            Due.is("digest of " + t[0] + ", more", x.digest(), digestByCalls(x));
            long before = x.digest();
            x.sheet(0, 1, 8);
            x.lay(0, 2, 0, 0);
            Due.is("sheets and findings do not come in", x.digest(), before);
        }
    }
}
