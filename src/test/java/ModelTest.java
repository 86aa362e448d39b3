import java.util.ArrayList;
import java.util.List;
import java.util.Map;
import java.util.Random;
import java.util.TreeMap;

/**
 * Runs by a fixed seed: each answer of the class against the one of Model. Three runs of four are calm: their texts
 * are always well, so that the answers are seldom refusals; in the others the texts are broken and mended.
 */
public final class ModelTest {
    private static final long LONG_BAD = Long.MIN_VALUE + 2;
    /** What later calls answer is free. The dearest step fills a text anew; the digest comes behind all. */
    private static final int MOST_CALLS = 512, DEAREST_STEP = 61;
    /** Of each call, answers in all and those that tell something (0 or more): a comparison of refusals alone is none. */
    private static final Map<String, int[]> TOLD = new TreeMap<>();
    private final Random random;
    private final HabitWill x = new HabitWill();
    private final Model m = new Model();
    private final String name;
    private final boolean calm;
    private int calls = 0;

    private ModelTest(int run) {
        random = new Random(run * 7919L + 5);
        name = "run " + run + ": ";
        calm = run % 4 != 3;
    }

    public static void main(String[] args) {
        int runs = args.length > 0 ? Integer.parseInt(args[0]) : 250;
        for (int run = 0; run < runs; run++) {
            new ModelTest(run).go();
        }
        enoughTold();
        Due.end();
    }

    private static void enoughTold() {
        for (Map.Entry<String, int[]> e : TOLD.entrySet()) {
            int[] n = e.getValue();
            boolean enough = n[1] * 8 >= n[0];
            Due.is(e.getKey() + ": " + n[1] + " of " + n[0] + " tell something, enough", enough ? 1 : 0, 1);
        }
    }

    private void go() {
        refill(0);
        refill(1);
        refill(2);
        for (int s = 0; calm && s < 4; s++) {
            makeStep(s, random.nextInt(3), 6 + random.nextInt(25));
        }
        for (int step = 0; step < 120 && calls + DEAREST_STEP < MOST_CALLS; step++) {
            step(random.nextInt(34));
        }
        digestStep();
    }

    private int pick(int low, int high) {
        int r = random.nextInt(40);
        return r == 0 ? low - 1 : r == 1 ? high + 1 : low + random.nextInt(high - low + 1);
    }

    private static boolean in(int n, int low, int high) {
        return n >= low && n <= high;
    }

    private boolean isHabit(int h) {
        return in(h, 0, m.rows(0).length - 1);
    }

    private boolean isHeir(int i) {
        return in(i, 0, m.rows(1).length - 1);
    }

    private void due(String call, long got, long want) {
        int[] n = TOLD.computeIfAbsent(call.split(" ")[0], k -> new int[2]);
        calls++;
        n[0]++;
        n[1] += want >= 0 ? 1 : 0;
        Due.is(name + call + " of " + m.texts[0] + " " + m.texts[1] + " " + m.texts[2], got, want);
    }

    private String row(int text) {
        char hour = (char) ('a' + random.nextInt(random.nextBoolean() ? 24 : 8));
        int habits = calm ? Math.max(1, m.rows(0).length) : 8;
        int heirs = calm ? Math.max(1, m.rows(1).length) : 6;
        if (text == 0) {
            int lean = random.nextInt(12);
            return "" + hour + (1 + random.nextInt(random.nextBoolean() ? 3 : 9)) + random.nextInt(10)
                + (lean < 5 ? "" + lean : ".") + (random.nextBoolean() ? "!" : ".");
        }
        if (text == 1) {
            char till = (char) ('a' + (hour - 'a' + random.nextInt(5)) % 24);
            return "" + (1 + random.nextInt(8)) + (random.nextInt(4) == 0 ? "" + hour + till : "mm");
        }
        return "" + random.nextInt(random.nextInt(6) == 0 ? 8 : habits) + (random.nextInt(5) == 0 ? "-" : "+")
            + random.nextInt(random.nextInt(6) == 0 ? 6 : Math.min(3, heirs))
            + (random.nextInt(4) == 0 ? "?" + random.nextInt(habits) : "");
    }

    private void refill(int text) {
        x.wipe(text);
        calls++;
        m.texts[text].setLength(0);
        int most = text == 0 ? 8 : text == 1 ? 6 : 15;
        int n = calm ? most - random.nextInt(most * 2 / 3) : random.nextInt(most + 1);
        for (int i = 0; i < n; i++) {
            String next = (i == 0 ? "" : ";") + row(text);
            if (m.texts[text].length() + next.length() <= Model.MOST_BYTES[text]) {
                Due.typeAll(x, text, next);
                calls += next.length();
                m.texts[text].append(next);
            }
        }
    }

    private void step(int kind) {
        if (kind < 6) {
            textStep(kind);
        } else if (kind < 12) {
            rowStep(kind);
        } else if (kind < 18) {
            willStep(kind);
        } else if (kind < 26) {
            planStep(kind);
        } else {
            sheetStep(kind);
        }
    }

    private void textStep(int kind) {
        int text = pick(0, 2);
        boolean bad = !in(text, 0, 2);
        StringBuilder t = bad ? null : m.texts[text];
        if (calm && !bad) {
            undoneAndTypedAgain(text, t);
            return;
        }
        switch (kind) {
            case 0: {
                String some = "abx1279.!;+-?0";
                int b = random.nextInt(8) == 0 ? pick(0, 255) : some.charAt(random.nextInt(some.length()));
                int want = bad || !in(b, 0, 255) ? -2 : t.length() == Model.MOST_BYTES[text] ? -4 : t.append((char) b).length();
                due("type", x.type(text, b), want);
                break;
            }
            case 1:
                due("undo", x.undo(text), bad ? -2 : t.length() == 0 ? -3 : t.length() - 1);
                if (!bad && t.length() > 0) {
                    t.setLength(t.length() - 1);
                }
                break;
            case 2:
                due("fault", x.fault(text), bad ? -2 : Model.faultOf(text, t.toString()));
                break;
            case 3:
                if (bad || random.nextInt(6) == 0) {
                    due("wipe", x.wipe(text), bad ? -2 : t.length());
                    if (!bad) {
                        t.setLength(0);
                    }
                } else {
                    refill(text);
                }
                break;
            default:
                if (!bad && Model.faultOf(text, t.toString()) >= 0) {
                    refill(text);
                }
                break;
        }
    }

    private void undoneAndTypedAgain(int text, StringBuilder t) {
        if (t.length() == 0 || random.nextInt(12) == 0) {
            refill(text);
            return;
        }
        char last = t.charAt(t.length() - 1);
        t.setLength(t.length() - 1);
        due("undo", x.undo(text), t.length());
        due("fault", x.fault(text), Model.faultOf(text, t.toString()));
        due("type", x.type(text, last), t.append(last).length());
        due("fault", x.fault(text), -1);
    }

    private int pickHabit() {
        return random.nextInt(4) == 0 ? pick(0, 7) : pick(0, Math.max(0, m.rows(0).length - 1));
    }

    /** Often one of the first, as these have most. */
    private int pickHeir() {
        int heirs = Math.max(1, m.rows(1).length);
        return random.nextBoolean() ? pick(0, Math.min(3, heirs) - 1) : pick(0, heirs - 1);
    }

    /** Often an hour in which one of his habits is, as else he mostly does nothing. */
    private int pickHour(int heir) {
        List<Integer> his = new ArrayList<>(isHeir(heir) ? Model.of(m.byTheWill().with, heir) : List.of());
        if (his.isEmpty() || random.nextInt(4) == 0) {
            return pick(0, 23);
        }
        int[] row = m.habitRow(his.get(random.nextInt(his.size())));
        return (row[0] + random.nextInt(row[1])) % 24;
    }

    private void rowStep(int kind) {
        int what = pick(0, 4);
        int heir = random.nextBoolean() ? pick(0, 5) : pickHeir();
        int habit = pickHabit();
        switch (kind) {
            case 6:
                due("habit", x.habit(habit, what), !isHabit(habit) || !in(what, 0, 4) ? -2 : m.habitRow(habit)[what]);
                break;
            case 7:
                what = pick(0, 2);
                due("heir", x.heir(heir, what), !isHeir(heir) || !in(what, 0, 2) ? -2 : m.heirRow(heir)[what]);
                break;
            case 8: {
                int clause = random.nextInt(4) == 0 ? pick(0, 14) : pick(0, Math.max(0, m.rows(2).length - 1));
                boolean bad = !in(clause, 0, m.rows(2).length - 1) || !in(what, 0, 3);
                due("clause", x.clause(clause, what), bad ? -2 : m.clauseRow(clause)[what]);
                break;
            }
            case 9: {
                boolean bad = !in(heir, 0, 5) || !in(habit, 0, 7);
                boolean full = m.refusals.size() == 12;
                due("refuse", x.refuse(heir, habit), bad ? -2 : full ? -4 : m.refusals.size() + 1);
                if (!bad && !full) {
                    m.refusals.add(new int[] {heir, habit});
                }
                break;
            }
            case 10: {
                int size = m.refusals.size();
                due("back", x.back(), size == 0 ? -3 : size - 1);
                if (size > 0) {
                    m.refusals.remove(size - 1);
                }
                break;
            }
            default: {
                int day = pick(0, 6);
                int v = pick(0, 9);
                boolean bad = !in(heir, 0, 5) || !in(day, 0, 6) || !in(v, 0, 9);
                due("value", x.value(heir, day, v), bad ? -2 : m.values[heir][day]);
                if (!bad) {
                    m.values[heir][day] = v;
                }
                break;
            }
        }
    }

    private void willStep(int kind) {
        int what = pick(0, 3);
        int heir = pickHeir();
        int hour = pickHour(heir);
        switch (kind) {
            case 12: {
                int habit = pickHabit();
                due("with", x.with(habit), !isHabit(habit) ? -2 : m.byTheWill().with.getOrDefault(habit, -1));
                break;
            }
            case 13:
            case 14:
                due("has " + heir + " " + what, x.has(heir, what), !isHeir(heir) || !in(what, 0, 3) ? -2 : has(heir, what));
                break;
            case 15: {
                boolean bad = !isHeir(heir) || !in(hour, 0, 23);
                due("does", x.does(heir, hour), bad ? -2 : m.doing(heir, Model.of(m.byTheWill().with, heir), hour));
                break;
            }
            case 16:
                due("done", x.done(), m.byTheWill().done);
                break;
            default:
                due("quarrel", x.quarrel(what), !in(what, 0, 3) ? -2 : m.quarrel()[what]);
                break;
        }
    }

    private int has(int heir, int what) {
        java.util.Set<Integer> his = Model.of(m.byTheWill().with, heir);
        switch (what) {
            case 0: return Model.bits(his);
            case 1: return Model.bits(m.cannot(heir, his));
            case 2: return m.worth(his);
            default: return m.lives(heir, his) ? 1 : 0;
        }
    }

    private void planStep(int kind) {
        int heir = pickHeir();
        int habit = pickHabit();
        int what = pick(0, 1);
        switch (kind) {
            case 18: {
                int i = pick(-1, 5);
                due("best " + i, x.best(i), !in(i, -1, 5) ? -2 : i == -1 ? Math.max(0, m.best()[0]) : m.best()[i + 1]);
                break;
            }
            case 19:
                due("write", x.write(heir, what), !isHeir(heir) || !in(what, 0, 1) ? -2 : m.write(heir)[what]);
                break;
            case 20: {
                int a = pick(0, 5);
                int b = pick(0, 5);
                boolean bad = !in(a, 0, 5) || !in(b, 0, 5) || a == b || !in(what, 0, 1);
                due("part", x.part(a, b, what), bad ? -2 : m.part(a, b)[what]);
                break;
            }
            case 21:
                seenStep();
                break;
            case 22:
                due("whose", x.whose(habit), isHabit(habit) ? whoseBits(habit) : -2);
                break;
            case 23:
                due("look", x.look(habit, heir), !isHabit(habit) || !isHeir(heir) ? -2 : m.look(habit, heir));
                break;
            case 24: {
                int c = pick(0, 16);
                int left = random.nextBoolean() ? pick(0, 8) : pick(0, 2);
                boolean bad = !in(c, 0, 16) || !isHeir(heir) || !in(left, 0, 8) || !in(what, 0, 1);
                due("march", x.march(c, heir, left, what), bad ? LONG_BAD : m.march(c, heir, left, what));
                break;
            }
            default: {
                int seed = random.nextInt();
                int n = pick(1, 20);
                boolean bad = !in(n, 1, 20) || !isHeir(heir) || m.rows(0).length == 0;
                due("wills", x.wills(seed, n, heir), bad ? -2 : m.wills(seed, n, heir));
                break;
            }
        }
    }

    private int whoseBits(int habit) {
        int bits = 0;
        for (int who : m.candidates(habit)) {
            bits |= 1 << who;
        }
        return bits;
    }

    private static boolean maySee(int hour, int heir, int habit) {
        return in(hour, 0, 23) && in(heir, 0, 5) && in(habit, -1, 7);
    }

    private void seenStep() {
        if (random.nextInt(6) == 0) {
            due("forget", x.forget(), m.sightings.size());
            m.sightings.clear();
            return;
        }
        int heir = pick(0, random.nextBoolean() ? 5 : 1);
        int hour = pickHour(heir);
        int habit = pick(-1, 7);
        if (isHeir(heir) && in(hour, 0, 23) && random.nextInt(4) > 0) {
            habit = m.doing(heir, Model.of(m.byTheWill().with, heir), hour);
        }
        boolean bad = !maySee(hour, heir, habit);
        boolean full = m.sightings.size() == 8;
        due("seen", x.seen(hour, heir, habit), bad ? -2 : full ? -4 : m.sightings.size() + 1);
        if (!bad && !full) {
            m.sightings.add(new int[] {hour, heir, habit});
        }
    }

    private void sheetStep(int kind) {
        int s = pick(0, 3);
        boolean bad = !in(s, 0, 3);
        Object sheet = bad ? null : m.sheets[s];
        int form = sheet == null || random.nextInt(5) == 0 ? pick(0, 2) : Model.formOf(sheet);
        int i = pick(0, sheet == null ? 11 : Math.max(0, Model.sizeOf(sheet) - 1));
        switch (kind) {
            case 26:
                makeStep(s, form, pick(0, random.nextBoolean() ? 60 : 12));
                break;
            case 27:
                if (random.nextInt(4) == 0) {
                    due("lose", x.lose(s), bad ? -2 : sheet == null ? m.found(1) : Model.sizeOf(sheet));
                    if (!bad) {
                        m.sheets[s] = null;
                    }
                }
                break;
            case 28: {
                int v = random.nextInt(4) == 0 ? random.nextInt() : pick(-1, 7);
                int finding = findingAt(s, form, i);
                due("lay", x.lay(s, form, i, v), finding < 0 ? -2 : finding > 0 ? m.found(finding) : 1);
                if (finding == 0) {
                    Model.put(sheet, i, v);
                }
                break;
            }
            case 29: {
                int finding = findingAt(s, form, i);
                due("get", x.get(s, form, i), finding != 0 ? Integer.MIN_VALUE : Model.itemOf(sheet, i));
                if (finding > 0) {
                    m.finding = finding;
                }
                break;
            }
            case 30:
                copyStep(s, i);
                break;
            case 31:
                hoursStep(s);
                break;
            case 32:
                readStep(s);
                break;
            default:
                countStep(pick(0, 8));
                break;
        }
    }

    private void makeStep(int s, int form, int n) {
        boolean bad = !in(s, 0, 3) || !in(form, 0, 2) || n > 60;
        due("sheet", x.sheet(s, form, n), bad ? -2 : n < 0 ? m.found(5) : n);
        if (!bad && n >= 0) {
            m.sheets[s] = form == 0 ? new byte[n] : form == 1 ? new short[n] : new int[n];
        }
    }

    private int findingAt(int s, int form, int i) {
        if (!in(s, 0, 3) || !in(form, 0, 2)) {
            return -1;
        }
        Object sheet = m.sheets[s];
        return sheet == null ? 1 : Model.formOf(sheet) != form ? 3 : !in(i, 0, Model.sizeOf(sheet) - 1) ? 2 : 0;
    }

    private void copyStep(int s, int i) {
        int t = random.nextBoolean() ? s : pick(0, 3);
        int j = pick(0, 6);
        int n = pick(0, 6);
        int want = 1;
        if (!in(s, 0, 3) || !in(t, 0, 3)) {
            want = -2;
        } else if (m.sheets[s] == null || m.sheets[t] == null) {
            want = m.found(1);
        } else if (Model.formOf(m.sheets[s]) != Model.formOf(m.sheets[t])) {
            want = m.found(4);
        } else if (i < 0 || j < 0 || n < 0 || i + n > Model.sizeOf(m.sheets[s]) || j + n > Model.sizeOf(m.sheets[t])) {
            want = m.found(2);
        }
        due("copy", x.copy(s, i, t, j, n), want);
        if (want == 1) {
            int[] asTheyWere = new int[n];
            for (int k = 0; k < n; k++) {
                asTheyWere[k] = Model.itemOf(m.sheets[s], i + k);
            }
            for (int k = 0; k < n; k++) {
                Model.put(m.sheets[t], j + k, asTheyWere[k]);
            }
        }
    }

    private void hoursStep(int s) {
        int heir = pickHeir();
        boolean bad = !isHeir(heir) || !in(s, 0, 3);
        Object sheet = bad ? null : m.sheets[s];
        due("hours", x.hours(heir, s), bad ? -2 : sheet == null ? m.found(1) : Math.min(24, Model.sizeOf(sheet)));
        for (int hour = 0; sheet != null && hour < 24 && hour < Model.sizeOf(sheet); hour++) {
            Model.put(sheet, hour, m.doing(heir, Model.of(m.byTheWill().with, heir), hour));
        }
    }

    private void readStep(int s) {
        boolean bad = !in(s, 0, 3);
        Object sheet = bad ? null : m.sheets[s];
        int n = 0;
        for (int i = 0; sheet != null && i + 3 <= Model.sizeOf(sheet) && m.sightings.size() < 8; i += 3) {
            int[] next = {Model.itemOf(sheet, i), Model.itemOf(sheet, i + 1), Model.itemOf(sheet, i + 2)};
            if (!maySee(next[0], next[1], next[2])) {
                break;
            }
            m.sightings.add(next);
            n++;
        }
        due("read", x.read(s), bad ? -2 : sheet == null ? m.found(1) : n);
    }

    private int[] counts() {
        return new int[] {m.rows(0).length, m.rows(1).length, m.rows(2).length, m.texts[0].length(),
            m.texts[1].length(), m.texts[2].length(), m.refusals.size(), m.sightings.size(), m.finding};
    }

    private void countStep(int what) {
        due("count " + what, x.count(what), in(what, 0, 8) ? counts()[what] : -2);
    }

    /** Compared by itself and not as one that tells something, as it may well be below 0. */
    private void digestStep() {
        List<Long> all = new ArrayList<>();
        for (int what = 0; what <= 7; what++) {
            all.add((long) counts()[what]);
        }
        for (int text = 0; text <= 2; text++) {
            all.add((long) Model.faultOf(text, m.texts[text].toString()));
        }
        for (int habit = 0; habit < m.rows(0).length; habit++) {
            addHabit(all, habit);
        }
        for (int heir = 0; heir < m.rows(1).length; heir++) {
            addHeir(all, heir);
        }
        for (int clause = 0; clause < m.rows(2).length; clause++) {
            addAll(all, m.clauseRow(clause));
        }
        int[] best = m.best();
        addAll(all, m.byTheWill().done);
        addAll(all, m.quarrel());
        addAll(all, Math.max(0, best[0]), best[1]);
        long h = 17;
        for (long next : all) {
            h = 31 * h + next;
        }
        calls++;
        Due.is(name + "digest", x.digest(), h);
        Due.is(name + "calls within what is promised", calls <= MOST_CALLS ? 1 : 0, 1);
    }

    private static void addAll(List<Long> all, int... next) {
        for (int n : next) {
            all.add((long) n);
        }
    }

    private void addHabit(List<Long> all, int habit) {
        addAll(all, m.habitRow(habit));
        addAll(all, m.byTheWill().with.getOrDefault(habit, -1), whoseBits(habit));
        addAll(all, isHeir(0) ? m.look(habit, 0) : -2);
    }

    private void addHeir(List<Long> all, int heir) {
        addAll(all, m.heirRow(heir));
        addAll(all, has(heir, 0), has(heir, 1), has(heir, 2), has(heir, 3));
        for (int hour : new int[] {0, 7, 20}) {
            addAll(all, m.doing(heir, Model.of(m.byTheWill().with, heir), hour));
        }
        addAll(all, m.write(heir));
        addAll(all, heir == 0 ? new int[] {-2, -2} : m.part(0, heir));
        all.add(m.march(5, heir, 1, 0));
        all.add(m.march(5, heir, 1, 1));
        addAll(all, m.rows(0).length == 0 ? -2 : m.wills(7, 9, heir));
    }
}
