import java.util.Random;

/** Runs by a fixed seed: each answer of the class against the one of Model. */
public final class ModelTest {
    private static final long LONG_BAD = Long.MIN_VALUE + 2;
    private final Random random;
    private final HabitWill x = new HabitWill();
    private final Model m = new Model();
    private final String name;

    private ModelTest(int run) {
        random = new Random(run * 7919L + 5);
        name = "run " + run + ": ";
    }

    public static void main(String[] args) {
        int runs = args.length > 0 ? Integer.parseInt(args[0]) : 250;
        for (int run = 0; run < runs; run++) {
            new ModelTest(run).go();
        }
        Due.end();
    }

    private void go() {
        refill(0);
        refill(1);
        refill(2);
        for (int call = 0; call < 120; call++) {
            step(random.nextInt(34));
        }
    }

    private int pick(int low, int high) {
        int r = random.nextInt(40);
        return r == 0 ? low - 1 : r == 1 ? high + 1 : low + random.nextInt(high - low + 1);
    }

    private static boolean in(int n, int low, int high) {
        return n >= low && n <= high;
    }

    private boolean isHabit(int h) {
        return in(h, 0, m.rows(0).length - 1);
    }

    private boolean isHeir(int i) {
        return in(i, 0, m.rows(1).length - 1);
    }

    private void due(String call, long got, long want) {
        Due.is(name + call + " of " + m.texts[0] + " " + m.texts[1] + " " + m.texts[2], got, want);
    }

    private String row(int text) {
        char hour = (char) ('a' + random.nextInt(random.nextBoolean() ? 24 : 8));
        if (text == 0) {
            int lean = random.nextInt(12);
            return "" + hour + (1 + random.nextInt(random.nextBoolean() ? 3 : 9)) + random.nextInt(10)
                + (lean < 5 ? "" + lean : ".") + (random.nextBoolean() ? "!" : ".");
        }
        if (text == 1) {
            char till = (char) ('a' + (hour - 'a' + random.nextInt(5)) % 24);
            return "" + (1 + random.nextInt(8)) + (random.nextInt(4) == 0 ? "" + hour + till : "mm");
        }
        return "" + random.nextInt(random.nextBoolean() ? 8 : 4) + (random.nextInt(5) == 0 ? "-" : "+")
            + random.nextInt(random.nextBoolean() ? 6 : 2) + (random.nextInt(3) == 0 ? "?" + random.nextInt(8) : "");
    }

    private void refill(int text) {
        x.wipe(text);
        m.texts[text].setLength(0);
        int n = random.nextInt(text == 0 ? 9 : text == 1 ? 7 : 16);
        for (int i = 0; i < n; i++) {
            String next = (i == 0 ? "" : ";") + row(text);
            if (m.texts[text].length() + next.length() <= Model.MOST_BYTES[text]) {
                Due.typeAll(x, text, next);
                m.texts[text].append(next);
            }
        }
    }

    private void step(int kind) {
        if (kind < 6) {
            textStep(kind);
        } else if (kind < 12) {
            rowStep(kind);
        } else if (kind < 18) {
            willStep(kind);
        } else if (kind < 26) {
            planStep(kind);
        } else {
            sheetStep(kind);
        }
    }

    private void textStep(int kind) {
        int text = pick(0, 2);
        boolean bad = !in(text, 0, 2);
        StringBuilder t = bad ? null : m.texts[text];
        switch (kind) {
            case 0: {
                String some = "abx1279.!;+-?0";
                int b = random.nextInt(8) == 0 ? pick(0, 255) : some.charAt(random.nextInt(some.length()));
                int want = bad || !in(b, 0, 255) ? -2 : t.length() == Model.MOST_BYTES[text] ? -4 : t.append((char) b).length();
                due("type", x.type(text, b), want);
                break;
            }
            case 1:
                due("undo", x.undo(text), bad ? -2 : t.length() == 0 ? -3 : t.length() - 1);
                if (!bad && t.length() > 0) {
                    t.setLength(t.length() - 1);
                }
                break;
            case 2:
                due("fault", x.fault(text), bad ? -2 : Model.faultOf(text, t.toString()));
                break;
            case 3:
                if (bad || random.nextInt(6) == 0) {
                    due("wipe", x.wipe(text), bad ? -2 : t.length());
                    if (!bad) {
                        t.setLength(0);
                    }
                } else {
                    refill(text);
                }
                break;
            default:
                if (!bad && Model.faultOf(text, t.toString()) >= 0) {
                    refill(text);
                }
                break;
        }
    }

    private void rowStep(int kind) {
        int what = pick(0, 4);
        int heir = pick(0, 5);
        int habit = pick(0, 7);
        switch (kind) {
            case 6:
                due("habit", x.habit(habit, what), !isHabit(habit) || !in(what, 0, 4) ? -2 : m.habitRow(habit)[what]);
                break;
            case 7:
                due("heir", x.heir(heir, what), !isHeir(heir) || !in(what, 0, 2) ? -2 : m.heirRow(heir)[what]);
                break;
            case 8: {
                int clause = pick(0, 14);
                boolean bad = !in(clause, 0, m.rows(2).length - 1) || !in(what, 0, 3);
                due("clause", x.clause(clause, what), bad ? -2 : m.clauseRow(clause)[what]);
                break;
            }
            case 9: {
                boolean bad = !in(heir, 0, 5) || !in(habit, 0, 7);
                boolean full = m.refusals.size() == 12;
                due("refuse", x.refuse(heir, habit), bad ? -2 : full ? -4 : m.refusals.size() + 1);
                if (!bad && !full) {
                    m.refusals.add(new int[] {heir, habit});
                }
                break;
            }
            case 10: {
                int size = m.refusals.size();
                due("back", x.back(), size == 0 ? -3 : size - 1);
                if (size > 0) {
                    m.refusals.remove(size - 1);
                }
                break;
            }
            default: {
                int day = pick(0, 6);
                int v = pick(0, 9);
                boolean bad = !in(heir, 0, 5) || !in(day, 0, 6) || !in(v, 0, 9);
                due("value", x.value(heir, day, v), bad ? -2 : m.values[heir][day]);
                if (!bad) {
                    m.values[heir][day] = v;
                }
                break;
            }
        }
    }

    private void willStep(int kind) {
        int what = pick(0, 3);
        int heir = pick(0, Math.max(0, m.rows(1).length - 1));
        int hour = pick(0, 23);
        switch (kind) {
            case 12: {
                int habit = pick(0, 7);
                due("with", x.with(habit), !isHabit(habit) ? -2 : m.byTheWill().with.getOrDefault(habit, -1));
                break;
            }
            case 13:
            case 14:
                due("has " + heir + " " + what, x.has(heir, what), !isHeir(heir) || !in(what, 0, 3) ? -2 : has(heir, what));
                break;
            case 15: {
                boolean bad = !isHeir(heir) || !in(hour, 0, 23);
                due("does", x.does(heir, hour), bad ? -2 : m.doing(heir, Model.of(m.byTheWill().with, heir), hour));
                break;
            }
            case 16:
                due("done", x.done(), m.byTheWill().done);
                break;
            default:
                due("quarrel", x.quarrel(what), !in(what, 0, 3) ? -2 : m.quarrel()[what]);
                break;
        }
    }

    private int has(int heir, int what) {
        java.util.Set<Integer> his = Model.of(m.byTheWill().with, heir);
        switch (what) {
            case 0: return Model.bits(his);
            case 1: return Model.bits(m.cannot(heir, his));
            case 2: return m.worth(his);
            default: return m.lives(heir, his) ? 1 : 0;
        }
    }

    private void planStep(int kind) {
        int heir = pick(0, Math.max(0, m.rows(1).length - 1));
        int habit = pick(0, Math.max(0, m.rows(0).length - 1));
        int what = pick(0, 1);
        switch (kind) {
            case 18: {
                int i = pick(-1, 5);
                due("best " + i, x.best(i), !in(i, -1, 5) ? -2 : i == -1 ? Math.max(0, m.best()[0]) : m.best()[i + 1]);
                break;
            }
            case 19:
                due("write", x.write(heir, what), !isHeir(heir) || !in(what, 0, 1) ? -2 : m.write(heir)[what]);
                break;
            case 20: {
                int a = pick(0, 5);
                int b = pick(0, 5);
                boolean bad = !in(a, 0, 5) || !in(b, 0, 5) || a == b || !in(what, 0, 1);
                due("part", x.part(a, b, what), bad ? -2 : m.part(a, b)[what]);
                break;
            }
            case 21:
                seenStep();
                break;
            case 22: {
                int bits = 0;
                if (isHabit(habit)) {
                    for (int who : m.candidates(habit)) {
                        bits |= 1 << who;
                    }
                }
                due("whose", x.whose(habit), isHabit(habit) ? bits : -2);
                break;
            }
            case 23:
                due("look", x.look(habit, heir), !isHabit(habit) || !isHeir(heir) ? -2 : m.look(habit, heir));
                break;
            case 24: {
                int c = pick(0, 16);
                int left = random.nextBoolean() ? pick(0, 8) : pick(0, 2);
                boolean bad = !in(c, 0, 16) || !isHeir(heir) || !in(left, 0, 8) || !in(what, 0, 1);
                due("march", x.march(c, heir, left, what), bad ? LONG_BAD : m.march(c, heir, left, what));
                break;
            }
            default: {
                int seed = random.nextInt();
                int n = pick(1, 20);
                boolean bad = !in(n, 1, 20) || !isHeir(heir) || m.rows(0).length == 0;
                due("wills", x.wills(seed, n, heir), bad ? -2 : m.wills(seed, n, heir));
                break;
            }
        }
    }

    private static boolean maySee(int hour, int heir, int habit) {
        return in(hour, 0, 23) && in(heir, 0, 5) && in(habit, -1, 7);
    }

    private void seenStep() {
        if (random.nextInt(6) == 0) {
            due("forget", x.forget(), m.sightings.size());
            m.sightings.clear();
            return;
        }
        int hour = pick(0, 23);
        int heir = pick(0, random.nextBoolean() ? 5 : 1);
        int habit = pick(-1, 7);
        if (isHeir(heir) && in(hour, 0, 23) && random.nextInt(4) > 0) {
            habit = m.doing(heir, Model.of(m.byTheWill().with, heir), hour);
        }
        boolean bad = !maySee(hour, heir, habit);
        boolean full = m.sightings.size() == 8;
        due("seen", x.seen(hour, heir, habit), bad ? -2 : full ? -4 : m.sightings.size() + 1);
        if (!bad && !full) {
            m.sightings.add(new int[] {hour, heir, habit});
        }
    }

    private void sheetStep(int kind) {
        int s = pick(0, 3);
        boolean bad = !in(s, 0, 3);
        Object sheet = bad ? null : m.sheets[s];
        int form = sheet == null || random.nextInt(5) == 0 ? pick(0, 2) : Model.formOf(sheet);
        int i = pick(0, 11);
        switch (kind) {
            case 26:
                makeStep(s, form, random.nextInt(6) == 0 ? pick(0, 60) : pick(0, 12));
                break;
            case 27:
                if (random.nextInt(4) == 0) {
                    due("lose", x.lose(s), bad ? -2 : sheet == null ? m.found(1) : Model.sizeOf(sheet));
                    if (!bad) {
                        m.sheets[s] = null;
                    }
                }
                break;
            case 28: {
                int v = random.nextBoolean() ? random.nextInt() : pick(-1, 7);
                int finding = findingAt(s, form, i);
                due("lay", x.lay(s, form, i, v), finding < 0 ? -2 : finding > 0 ? m.found(finding) : 1);
                if (finding == 0) {
                    Model.put(sheet, i, v);
                }
                break;
            }
            case 29: {
                int finding = findingAt(s, form, i);
                due("get", x.get(s, form, i), finding != 0 ? Integer.MIN_VALUE : Model.itemOf(sheet, i));
                if (finding > 0) {
                    m.finding = finding;
                }
                break;
            }
            case 30:
                copyStep(s, i);
                break;
            case 31:
                hoursStep(s);
                break;
            case 32:
                readStep(s);
                break;
            default:
                countStep(pick(0, 8));
                break;
        }
    }

    private void makeStep(int s, int form, int n) {
        boolean bad = !in(s, 0, 3) || !in(form, 0, 2) || n > 60;
        due("sheet", x.sheet(s, form, n), bad ? -2 : n < 0 ? m.found(5) : n);
        if (!bad && n >= 0) {
            m.sheets[s] = form == 0 ? new byte[n] : form == 1 ? new short[n] : new int[n];
        }
    }

    private int findingAt(int s, int form, int i) {
        if (!in(s, 0, 3) || !in(form, 0, 2)) {
            return -1;
        }
        Object sheet = m.sheets[s];
        return sheet == null ? 1 : Model.formOf(sheet) != form ? 3 : !in(i, 0, Model.sizeOf(sheet) - 1) ? 2 : 0;
    }

    private void copyStep(int s, int i) {
        int t = random.nextBoolean() ? s : pick(0, 3);
        int j = pick(0, 6);
        int n = pick(0, 6);
        int want = 1;
        if (!in(s, 0, 3) || !in(t, 0, 3)) {
            want = -2;
        } else if (m.sheets[s] == null || m.sheets[t] == null) {
            want = m.found(1);
        } else if (Model.formOf(m.sheets[s]) != Model.formOf(m.sheets[t])) {
            want = m.found(4);
        } else if (i < 0 || j < 0 || n < 0 || i + n > Model.sizeOf(m.sheets[s]) || j + n > Model.sizeOf(m.sheets[t])) {
            want = m.found(2);
        }
        due("copy", x.copy(s, i, t, j, n), want);
        if (want == 1) {
            int[] asTheyWere = new int[n];
            for (int k = 0; k < n; k++) {
                asTheyWere[k] = Model.itemOf(m.sheets[s], i + k);
            }
            for (int k = 0; k < n; k++) {
                Model.put(m.sheets[t], j + k, asTheyWere[k]);
            }
        }
    }

    private void hoursStep(int s) {
        int heir = pick(0, Math.max(0, m.rows(1).length - 1));
        boolean bad = !isHeir(heir) || !in(s, 0, 3);
        Object sheet = bad ? null : m.sheets[s];
        due("hours", x.hours(heir, s), bad ? -2 : sheet == null ? m.found(1) : Math.min(24, Model.sizeOf(sheet)));
        for (int hour = 0; sheet != null && hour < 24 && hour < Model.sizeOf(sheet); hour++) {
            Model.put(sheet, hour, m.doing(heir, Model.of(m.byTheWill().with, heir), hour));
        }
    }

    private void readStep(int s) {
        boolean bad = !in(s, 0, 3);
        Object sheet = bad ? null : m.sheets[s];
        int n = 0;
        for (int i = 0; sheet != null && i + 3 <= Model.sizeOf(sheet) && m.sightings.size() < 8; i += 3) {
            int[] next = {Model.itemOf(sheet, i), Model.itemOf(sheet, i + 1), Model.itemOf(sheet, i + 2)};
            if (!maySee(next[0], next[1], next[2])) {
                break;
            }
            m.sightings.add(next);
            n++;
        }
        due("read", x.read(s), bad ? -2 : sheet == null ? m.found(1) : n);
    }

    private void countStep(int what) {
        int[] counts = {m.rows(0).length, m.rows(1).length, m.rows(2).length, m.texts[0].length(), m.texts[1].length(),
            m.texts[2].length(), m.refusals.size(), m.sightings.size(), m.finding};
        due("count " + what, x.count(what), in(what, 0, 8) ? counts[what] : -2);
    }
}
