import java.util.ArrayList;
import java.util.List;
import java.util.function.ToLongFunction;

/**
 * Refusals change nothing, FINDINGS nothing but count() 8, nor do calls that only tell: each such call on an object of
 * its own, whose whole state is then told and compared with that of a twin on which it was not called.
 */
public final class RefusedTest {
    private static final int LEAST = Integer.MIN_VALUE, MOST = Integer.MAX_VALUE;
    private static final long LONG_BAD = Long.MIN_VALUE + 2;
    private static final int[] WILD = {-1, -2, 9, 61, 256, LEAST, MOST};

    /** A twin of every other that it makes: some of each thing, or all of it full. */
    private static HabitWill made(boolean full) {
        HabitWill x = Due.estate(full ? "a15.!;b26..;c371.;v35..;a19..;k11.!;l22..;x937!" : "a15.!;b26..;c371.",
            full ? "8mm;2ab;1xa;3aa;4wx;8cb" : "8mm;2ab",
            full ? "0+0;1+1;2+0;3+0;4+4;5+0;6+0;7+1;0+1;1-1;2+0;3+1;4+0;5+5;6+1" : "0+0;1+1;2+0?1");
        for (int n = 0; n < (full ? 12 : 2); n++) {
            x.refuse(n % 3, n % 2);
        }
        for (int n = 0; n < (full ? 8 : 2); n++) {
            x.seen(n + 10, n % 2, HabitWill.NONE);
        }
        for (int n = 0; n < 10; n++) {
            x.value(n % 6, n % 7, n);
        }
        for (int form = 0; form < 3; form++) {
            x.sheet(form, form, 3 + form);
            for (int i = 0; i < 3 + form; i++) {
                x.lay(form, form, i, 100 * form + 7 * i + 1);
            }
        }
        return x;
    }

    /** All that calls can tell of an object; it is used up by that. */
    private static String told(HabitWill x) {
        StringBuilder t = new StringBuilder();
        t.append("count8=").append(x.count(8)).append(" digest=").append(x.digest());
        for (int form = 0; form < 3; form++) {
            for (int i = 0; i < 3 + form; i++) {
                t.append(' ').append(x.get(form, form, i));
            }
            t.append(" lost ").append(x.lose(form));
        }
        t.append(" lost ").append(x.lose(3));
        for (int heir = 0; heir < 6; heir++) {
            for (int day = 0; day < 7; day++) {
                t.append(' ').append(x.value(heir, day, 1));
            }
        }
        while (x.count(6) > 0) {
            t.append(" done ").append(x.done()).append(" back ").append(x.back());
        }
        t.append(" whose ").append(x.whose(0)).append(' ').append(x.whose(1)).append(" forget ").append(x.forget());
        for (int text = 0; text < 3; text++) {
            while (x.count(3 + text) > 0) {
                t.append(' ').append(x.fault(text)).append(x.count(text)).append(x.undo(text));
            }
        }
        return t.toString();
    }

    private record Refused(String name, long want, ToLongFunction<HabitWill> call) {
    }

    private static final List<Refused> ALL = new ArrayList<>();
    private static final List<Refused> WHEN_FULL = new ArrayList<>();

    private static void add(String name, long want, ToLongFunction<HabitWill> call) {
        ALL.add(new Refused(name, want, call));
    }

    public static void main(String[] args) {
        badTexts();
        badWill();
        badPlans();
        badSeen();
        badSheets();
        findings();
        compare(ALL, false);
        WHEN_FULL.add(new Refused("type 0", -4, x -> x.type(0, 'a')));
        WHEN_FULL.add(new Refused("type 1", -4, x -> x.type(1, 'a')));
        WHEN_FULL.add(new Refused("type 2", -4, x -> x.type(2, 'a')));
        WHEN_FULL.add(new Refused("refuse", -4, x -> x.refuse(0, 0)));
        WHEN_FULL.add(new Refused("seen", -4, x -> x.seen(0, 0, 0)));
        compare(WHEN_FULL, true);
        notWhenEmpty();
        callsThatOnlyTell(false);
        callsThatOnlyTell(true);
        Due.end();
    }

    private static void compare(List<Refused> calls, boolean full) {
        String due = told(made(full));
        for (Refused r : calls) {
            HabitWill x = made(full);
            long got = r.call.applyAsLong(x);
            Due.is(r.name, got, r.want);
            boolean finding = r.want <= -11 && r.want >= -15;
            String want = finding ? due.replace("count8=0", "count8=" + (-10 - r.want)) : due;
            String then = told(x);
            Due.is(r.name + " changes nothing", then.equals(want) ? 1 : 0, 1);
        }
    }

    private static void badTexts() {
        for (int w : WILD) {
            add("type text " + w, -2, x -> x.type(w, 'a'));
            add("wipe " + w, -2, x -> x.wipe(w));
            add("undo " + w, -2, x -> x.undo(w));
            add("fault " + w, -2, x -> x.fault(w));
            add("habit " + w, -2, x -> x.habit(w, 0));
            add("habit what " + w, -2, x -> x.habit(0, w));
            add("heir " + w, -2, x -> x.heir(w, 0));
            add("heir what " + w, -2, x -> x.heir(0, w));
            add("clause " + w, -2, x -> x.clause(w, 0));
            add("clause what " + w, -2, x -> x.clause(0, w));
            add("refuse by " + w, -2, x -> x.refuse(w, 0));
            add("refuse of " + w, -2, x -> x.refuse(0, w));
            add("value of " + w, -2, x -> x.value(w, 0, 5));
            add("value day " + w, -2, x -> x.value(0, w, 5));
            if (w != 9) {
                add("value " + w, -2, x -> x.value(0, 0, w));
            }
            if (w < 0 || w > 255) {
                add("type byte " + w, -2, x -> x.type(0, w));
            }
        }
    }

    private static void badWill() {
        for (int w : WILD) {
            add("with " + w, -2, x -> x.with(w));
            add("has " + w, -2, x -> x.has(w, 0));
            add("has what " + w, -2, x -> x.has(0, w));
            add("does " + w, -2, x -> x.does(w, 0));
            if (w != 9) {
                add("does at " + w, -2, x -> x.does(0, w));
            }
            add("quarrel " + w, -2, x -> x.quarrel(w));
        }
    }

    private static void badPlans() {
        for (int w : WILD) {
            if (w != -1) {
                add("best " + w, -2, x -> x.best(w));
            }
            add("write " + w, -2, x -> x.write(w, 0));
            add("write what " + w, -2, x -> x.write(0, w));
            add("part a " + w, -2, x -> x.part(w, 0, 0));
            add("part b " + w, -2, x -> x.part(0, w, 0));
            add("part what " + w, -2, x -> x.part(0, 1, w));
        }
        add("part twice", -2, x -> x.part(1, 1, 0));
    }

    private static void badSeen() {
        for (int w : WILD) {
            if (w != 9) {
                add("seen at " + w, -2, x -> x.seen(w, 0, 0));
            }
            add("seen by " + w, -2, x -> x.seen(0, w, 0));
            if (w != -1) {
                add("seen of " + w, -2, x -> x.seen(0, 0, w));
            }
            add("read " + w, -2, x -> x.read(w));
            add("whose " + w, -2, x -> x.whose(w));
            add("look " + w, -2, x -> x.look(w, 0));
            add("look by " + w, -2, x -> x.look(0, w));
            if (w != 9) {
                add("march by " + w, LONG_BAD, x -> x.march(w, 0, 0, 0));
                add("wills n " + w, -2, x -> x.wills(0, w, 0));
            }
            add("march of " + w, LONG_BAD, x -> x.march(0, w, 0, 0));
            add("march left " + w, LONG_BAD, x -> x.march(0, 0, w, 0));
            add("march what " + w, LONG_BAD, x -> x.march(0, 0, 0, w));
            add("wills of " + w, -2, x -> x.wills(0, 1, w));
        }
        add("wills n 0", -2, x -> x.wills(0, 0, 0));
    }

    private static void badSheets() {
        for (int w : WILD) {
            add("sheet " + w, -2, x -> x.sheet(w, 0, 1));
            add("sheet form " + w, -2, x -> x.sheet(0, w, 1));
            if (w >= 61) {
                add("sheet n " + w, -2, x -> x.sheet(0, 0, w));
            }
            add("lose " + w, -2, x -> x.lose(w));
            add("lay " + w, -2, x -> x.lay(w, 0, 0, 5));
            add("lay form " + w, -2, x -> x.lay(0, w, 0, 5));
            add("get " + w, LEAST, x -> x.get(w, 0, 0));
            add("get form " + w, LEAST, x -> x.get(0, w, 0));
            add("copy s " + w, -2, x -> x.copy(w, 0, 0, 0, 1));
            add("copy t " + w, -2, x -> x.copy(0, 0, w, 0, 1));
            add("hours of " + w, -2, x -> x.hours(w, 0));
            add("hours to " + w, -2, x -> x.hours(0, w));
            add("count " + w, -2, x -> x.count(w));
        }
    }

    private static void findings() {
        add("sheet of SIZE", -15, x -> x.sheet(0, 0, -1));
        add("lose of NULL", -11, x -> x.lose(3));
        add("lay of NULL", -11, x -> x.lay(3, 0, 0, 5));
        add("lay of CAST", -13, x -> x.lay(0, 1, 0, 5));
        add("lay of INDEX", -12, x -> x.lay(0, 0, 3, 5));
        add("lay of INDEX, below 0", -12, x -> x.lay(0, 0, -1, 5));
        add("copy from NULL", -11, x -> x.copy(3, 0, 0, 0, 1));
        add("copy to NULL", -11, x -> x.copy(0, 0, 3, 0, 1));
        add("copy of STORE", -14, x -> x.copy(0, 0, 1, 0, 1));
        add("copy of INDEX", -12, x -> x.copy(0, 0, 0, 1, 3));
        add("copy of INDEX, below 0", -12, x -> x.copy(0, 0, 0, -1, 1));
        add("hours to NULL", -11, x -> x.hours(0, 3));
        add("read of NULL", -11, x -> x.read(3));
    }

    /** NOT comes where there is nothing: on new objects, which are new ones still. */
    private static void notWhenEmpty() {
        String due = told(new HabitWill());
        for (int text = 0; text < 3; text++) {
            HabitWill x = new HabitWill();
            Due.is("undo of empty " + text, x.undo(text), -3);
            Due.is("undo of empty " + text + " changes nothing", told(x).equals(due) ? 1 : 0, 1);
        }
        HabitWill x = new HabitWill();
        Due.is("back of none", x.back(), -3);
        Due.is("back of none changes nothing", told(x).equals(due) ? 1 : 0, 1);
    }

    private static void tells(String name, boolean full, ToLongFunction<HabitWill> call) {
        HabitWill x = made(full);
        long got = call.applyAsLong(x);
        Due.is(name + " tells the same twice", call.applyAsLong(x), got);
        Due.is(name + " changes nothing", told(x).equals(told(made(full))) ? 1 : 0, 1);
    }

    private static void callsThatOnlyTell(boolean full) {
        for (int n = 0; n < 2; n++) {
            int it = n;
            tells("fault", full, x -> x.fault(it));
            tells("habit", full, x -> x.habit(it, 2));
            tells("heir", full, x -> x.heir(it, 1));
            tells("clause", full, x -> x.clause(it, 3));
            tells("with", full, x -> x.with(it));
            tells("has", full, x -> x.has(it, 0));
            tells("does", full, x -> x.does(it, 0));
            tells("done", full, x -> x.done());
            tells("quarrel", full, x -> x.quarrel(it));
            tells("best", full, x -> x.best(it - 1));
            tells("write", full, x -> x.write(it, 1));
            tells("part", full, x -> x.part(it, 3, 0));
            tells("whose", full, x -> x.whose(it));
            tells("look", full, x -> x.look(it, 1));
            tells("march", full, x -> x.march(5, it, 1, 0));
            tells("wills", full, x -> x.wills(it, 20, it));
            tells("get", full, x -> x.get(it, it, 0));
            tells("count", full, x -> x.count(it));
            tells("digest", full, x -> x.digest());
        }
    }
}
