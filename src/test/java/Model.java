import java.math.BigInteger;
import java.util.ArrayList;
import java.util.Arrays;
import java.util.HashMap;
import java.util.HashSet;
import java.util.List;
import java.util.Map;
import java.util.Set;

/** The document once more, as plainly and slowly as may be, with sets and lists: what ModelTest compares with. */
final class Model {
    static final int[] MOST_BYTES = {47, 23, 59};
    final StringBuilder[] texts = {new StringBuilder(), new StringBuilder(), new StringBuilder()};
    final List<int[]> refusals = new ArrayList<>();
    final List<int[]> sightings = new ArrayList<>();
    final int[][] values = new int[6][7];
    final Object[] sheets = new Object[4];
    private final String[] splitText = new String[3];
    private final String[][] splitRows = new String[3][];
    int finding = 0;

    Model() {
        for (int[] row : values) {
            Arrays.fill(row, 1);
        }
    }

    // texts, by a table of what may stand at each step: the next steps are written behind each set

    static int faultOf(int text, String t) {
        if (t.isEmpty()) {
            return -1;
        }
        String[][] steps = {
            {"abcdefghijklmnopqrstuvwx", "123456789", "0123456789", ".01234567", "!."},
            {"12345678", "abcdefghijklmnopqrstuvwx", "abcdefghijklmnopqrstuvwx"},
            {"01234567", "+-", "012345"}};
        int step = 0;
        for (int i = 0; i < t.length(); i++) {
            char c = t.charAt(i);
            int whole = steps[text].length;
            if (step < whole) {
                if (steps[text][step].indexOf(c) < 0) {
                    return i;
                }
                step++;
            } else if (c == ';' && step != whole + 1) {
                step = 0;
            } else if (text == 2 && step == whole && c == '?') {
                step++;
            } else if (text == 2 && step == whole + 1 && c >= '0' && c <= '7') {
                step++;
            } else {
                return i;
            }
        }
        int whole = steps[text].length;
        return step == whole || step == whole + 2 ? -1 : t.length();
    }

    /** Split anew only if the text is another one, as this is asked for some thousand times a call. */
    String[] rows(int text) {
        String t = texts[text].toString();
        if (!t.equals(splitText[text])) {
            splitText[text] = t;
            splitRows[text] = t.isEmpty() || faultOf(text, t) >= 0 ? new String[0] : t.split(";");
        }
        return splitRows[text];
    }

    int[] habitRow(int h) {
        String r = rows(0)[h];
        return new int[] {r.charAt(0) - 'a', r.charAt(1) - '0', r.charAt(2) - '0',
            r.charAt(3) == '.' ? -1 : r.charAt(3) - '0', r.charAt(4) == '!' ? 1 : 0};
    }

    int[] heirRow(int i) {
        String r = rows(1)[i];
        return new int[] {r.charAt(0) - '0', r.charAt(1) - 'a', r.charAt(2) - 'a'};
    }

    int[] clauseRow(int c) {
        String r = rows(2)[c];
        return new int[] {r.charAt(0) - '0', r.charAt(1) == '+' ? 1 : 0, r.charAt(2) - '0',
            r.length() > 3 ? r.charAt(4) - '0' : -1};
    }

    // the will

    static final class Outcome {
        final Map<Integer, Integer> with = new HashMap<>();
        int done = 0;
    }

    Outcome carriedOut(List<int[]> allRefusals, List<int[]> more) {
        List<int[]> all = new ArrayList<>();
        for (int c = 0; c < rows(2).length; c++) {
            all.add(clauseRow(c));
        }
        all.addAll(more);
        int habits = rows(0).length;
        int heirs = rows(1).length;
        Outcome o = new Outcome();
        for (int c = 0; c < all.size(); c++) {
            int[] clause = all.get(c);
            Integer ahead = o.with.get(clause[0]);
            if (clause[3] >= 0 && !o.with.containsKey(clause[3])) {
                continue;
            }
            if (clause[1] == 1) {
                boolean refused = false;
                for (int[] r : allRefusals) {
                    refused |= r[0] == clause[2] && r[1] == clause[0];
                }
                if (!refused && clause[0] < habits && clause[2] < heirs) {
                    o.with.put(clause[0], clause[2]);
                }
            } else if (ahead != null && ahead == clause[2]) {
                o.with.remove(clause[0]);
            }
            Integer behind = o.with.get(clause[0]);
            boolean same = ahead == null ? behind == null : ahead.equals(behind);
            if (!same && c < 31) {
                o.done |= 1 << c;
            }
        }
        return o;
    }

    Outcome byTheWill() {
        return carriedOut(refusals, List.of());
    }

    static Set<Integer> of(Map<Integer, Integer> with, int heir) {
        Set<Integer> set = new HashSet<>();
        for (Map.Entry<Integer, Integer> e : with.entrySet()) {
            if (e.getValue() == heir) {
                set.add(e.getKey());
            }
        }
        return set;
    }

    static int bits(Set<Integer> set) {
        int bits = 0;
        for (int i : set) {
            bits += 1 << i;
        }
        return bits;
    }

    boolean isAt(int habit, int hour) {
        int[] row = habitRow(habit);
        for (int k = 0; k < row[1]; k++) {
            if ((row[0] + k) % 24 == hour) {
                return true;
            }
        }
        return false;
    }

    boolean isAway(int heir, int hour) {
        int[] row = heirRow(heir);
        if (row[1] == row[2]) {
            return false;
        }
        return row[1] < row[2] ? hour >= row[1] && hour < row[2] : hour >= row[1] || hour < row[2];
    }

    Set<Integer> cannot(int heir, Set<Integer> his) {
        Set<Integer> cannot = new HashSet<>();
        for (int habit : his) {
            for (int hour = 0; hour < 24; hour++) {
                if (isAt(habit, hour) && isAway(heir, hour)) {
                    cannot.add(habit);
                }
            }
            int lean = habitRow(habit)[3];
            if (lean >= 0 && !his.contains(lean)) {
                cannot.add(habit);
            }
        }
        return cannot;
    }

    boolean lives(int heir, Set<Integer> his) {
        if (his.size() > heirRow(heir)[0] || !cannot(heir, his).isEmpty()) {
            return false;
        }
        for (int hour = 0; hour < 24; hour++) {
            int n = 0;
            for (int habit : his) {
                n += isAt(habit, hour) ? 1 : 0;
            }
            if (n > 1) {
                return false;
            }
        }
        return true;
    }

    int worth(Set<Integer> his) {
        int worth = 0;
        for (int habit : his) {
            worth += habitRow(habit)[2];
        }
        return worth;
    }

    int doing(int heir, Set<Integer> his, int hour) {
        Set<Integer> cannot = cannot(heir, his);
        int chosen = -1;
        for (int habit = 7; habit >= 0; habit--) {
            if (his.contains(habit) && !cannot.contains(habit) && isAt(habit, hour)
                && (chosen < 0 || habitRow(habit)[2] >= habitRow(chosen)[2])) {
                chosen = habit;
            }
        }
        return chosen;
    }

    int[] quarrel() {
        Map<Integer, Integer> with = byTheWill().with;
        for (int hour = 0; hour < 24; hour++) {
            for (int heir = 0; heir < rows(1).length; heir++) {
                List<Integer> at = new ArrayList<>();
                for (int habit = 0; habit < rows(0).length; habit++) {
                    if (with.getOrDefault(habit, -1) == heir && isAt(habit, hour)) {
                        at.add(habit);
                    }
                }
                if (at.size() > 1) {
                    return new int[] {hour, heir, at.get(0), at.get(1)};
                }
            }
        }
        return new int[] {-1, -1, -1, -1};
    }

    // plans

    /** The worth, then the row; every row is tried, counted in fives, where 4 is nobody. */
    int[] best() {
        int habits = Math.min(6, rows(0).length);
        int heirs = Math.min(4, rows(1).length);
        boolean[][] livesWith = new boolean[heirs][1 << habits];
        for (int heir = 0; heir < heirs; heir++) {
            for (int m = 0; m < 1 << habits; m++) {
                Set<Integer> his = new HashSet<>();
                for (int h = 0; h < habits; h++) {
                    if ((m >> h & 1) == 1) {
                        his.add(h);
                    }
                }
                livesWith[heir][m] = lives(heir, his);
            }
        }
        int rowsInAll = (int) Math.pow(5, habits);
        int[] best = {-1, -1, -1, -1, -1, -1, -1};
        for (int n = 0; n < rowsInAll; n++) {
            int[] row = new int[habits];
            for (int h = habits - 1, rest = n; h >= 0; h--, rest /= 5) {
                row[h] = rest % 5;
            }
            int worth = 0;
            int[] masks = new int[5];
            for (int h = 0; h < habits; h++) {
                masks[row[h]] |= 1 << h;
                worth += row[h] < 4 ? rows(0)[h].charAt(2) - '0' : 0;
            }
            boolean well = true;
            for (int heir = 0; heir < 4; heir++) {
                well &= masks[heir] == 0 || heir < heirs && livesWith[heir][masks[heir]];
            }
            if (well && worth > best[0]) {
                best[0] = worth;
                for (int h = 0; h < habits; h++) {
                    best[h + 1] = row[h] == 4 ? -1 : row[h];
                }
            }
        }
        return best;
    }

    int[] write(int heir) {
        for (int howMany = 0; howMany <= 8; howMany++) {
            for (int m = 0; m < 1 << rows(0).length; m++) {
                if (Integer.bitCount(m) != howMany) {
                    continue;
                }
                List<int[]> all = new ArrayList<>(refusals);
                for (int h = 0; h < 8; h++) {
                    if ((m >> h & 1) == 1) {
                        all.add(new int[] {heir, h});
                    }
                }
                if (lives(heir, of(carriedOut(all, List.of()).with, heir))) {
                    return new int[] {howMany, m};
                }
            }
        }
        return new int[] {-1, -1};
    }

    int[] part(int a, int b) {
        int[] best = {-1, -1};
        for (int m = 127; m >= 0; m--) {
            int ownA = 0, otherA = 0, ownB = 0, otherB = 0;
            for (int day = 0; day < 7; day++) {
                if ((m >> day & 1) == 1) {
                    ownA += values[a][day];
                    otherB += values[b][day];
                } else {
                    otherA += values[a][day];
                    ownB += values[b][day];
                }
            }
            if (ownA >= otherA && ownB >= otherB && ownA + ownB >= best[1]) {
                best = new int[] {m, ownA + ownB};
            }
        }
        return best;
    }

    // seen

    List<Integer> candidates(int habit) {
        List<Integer> well = new ArrayList<>();
        for (int who = 0; who <= 6; who++) {
            if (who < 6 && who >= rows(1).length) {
                continue;
            }
            Map<Integer, Integer> with = withHabitAt(habit, who);
            boolean fits = true;
            for (int[] s : sightings) {
                int does = s[1] < rows(1).length ? doing(s[1], of(with, s[1]), s[0]) : -1;
                fits &= does == s[2];
            }
            if (fits) {
                well.add(who);
            }
        }
        return well;
    }

    Map<Integer, Integer> withHabitAt(int habit, int who) {
        Map<Integer, Integer> with = new HashMap<>(byTheWill().with);
        with.remove(habit);
        if (who < 6) {
            with.put(habit, who);
        }
        return with;
    }

    int look(int habit, int heir) {
        List<Integer> all = candidates(habit);
        int least = 99;
        int first = -1;
        for (int hour = 0; hour < 24; hour++) {
            Map<Integer, Integer> groups = new HashMap<>();
            for (int who : all) {
                groups.merge(doing(heir, of(withHabitAt(habit, who), heir), hour), 1, Integer::sum);
            }
            int greatest = groups.values().stream().mapToInt(n -> n).max().orElse(0);
            if (greatest < least) {
                least = greatest;
                first = hour;
            }
        }
        return first;
    }

    long march(int c, int heir, int left, int what) {
        int vices = 0;
        for (int habit : of(byTheWill().with, heir)) {
            vices += habitRow(habit)[4];
        }
        // the chance that k are left behind each vice, one by one
        BigInteger[] chance = new BigInteger[10];
        Arrays.fill(chance, BigInteger.ZERO);
        chance[0] = BigInteger.ONE;
        for (int v = 0; v < vices; v++) {
            for (int k = 9; k >= 0; k--) {
                BigInteger stays = k == 0 ? BigInteger.ZERO : chance[k - 1].multiply(BigInteger.valueOf(16 - c));
                chance[k] = chance[k].multiply(BigInteger.valueOf(c)).add(stays);
            }
        }
        BigInteger below = BigInteger.valueOf(16).pow(vices);
        BigInteger common = chance[left].gcd(below);
        return (what == 0 ? chance[left] : below).divide(common).longValueExact();
    }

    int wills(int seed, int n, int heir) {
        List<int[]> more = new ArrayList<>();
        int[] bounds = {rows(0).length, 2, rows(1).length};
        int s = seed;
        for (int i = 0; i < n; i++) {
            int[] lots = new int[3];
            for (int k = 0; k < 3; k++) {
                s = (int) (s * 1103515245L + 12345L);
                lots[k] = (int) ((s & 0xffffffffL) >> 16) % bounds[k];
            }
            more.add(new int[] {lots[0], lots[1] == 0 ? 1 : 0, lots[2], -1});
        }
        return worth(of(carriedOut(refusals, more).with, heir));
    }

    // sheets, as Java's own rows

    static int sizeOf(Object sheet) {
        return java.lang.reflect.Array.getLength(sheet);
    }

    static int itemOf(Object sheet, int i) {
        return ((Number) java.lang.reflect.Array.get(sheet, i)).intValue();
    }

    static int formOf(Object sheet) {
        return sheet instanceof byte[] ? 0 : sheet instanceof short[] ? 1 : 2;
    }

    static void put(Object sheet, int i, int v) {
        if (sheet instanceof byte[]) {
            ((byte[]) sheet)[i] = (byte) v;
        } else if (sheet instanceof short[]) {
            ((short[]) sheet)[i] = (short) v;
        } else {
            ((int[]) sheet)[i] = v;
        }
    }

    int found(int number) {
        finding = number;
        return -10 - number;
    }
}
