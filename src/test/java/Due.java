/** What every test of the project uses: it tells each answer that is not as due, and ends with 1 if there was one. */
final class Due {
    private static int checked = 0;
    private static int wrong = 0;

    private Due() {
    }

    static void is(String call, long got, long want) {
        checked++;
        if (got != want) {
            wrong++;
            System.out.println(call + " answered " + got + ", due is " + want);
        }
    }

    static void end() {
        System.out.println(checked + " answers looked at, " + wrong + " not as due");
        if (wrong != 0 || checked == 0) {
            System.exit(1);
        }
    }

    static void typeAll(HabitWill x, int text, String signs) {
        for (int i = 0; i < signs.length(); i++) {
            x.type(text, signs.charAt(i));
        }
    }

    static HabitWill estate(String habits, String heirs, String will) {
        HabitWill x = new HabitWill();
        typeAll(x, 0, habits);
        typeAll(x, 1, heirs);
        typeAll(x, 2, will);
        return x;
    }
}
