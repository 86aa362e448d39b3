/** The boundary cases of refusals, values and the will, one test for each sentence that names one: promises 9 to 16. */
public final class EdgesOfWillTest {
    private static final int NONE = HabitWill.NONE, BAD = HabitWill.BAD, NOT = HabitWill.NOT, FULL = HabitWill.FULL;
    private static final int LEAST = Integer.MIN_VALUE, MOST = Integer.MAX_VALUE;

    public static void main(String[] args) {
        refuseOutside();
        refuseTillFull();
        refuseBadAheadOfFull();
        refuseWhoOrWhatIsNotThere();
        refuseAlikeTwice();
        refuseMinusStands();
        backOfNone();
        backOfFull();
        backUndoesTheLast();
        valueOutside();
        valueAtItsEnds();
        valueAtFirst();
        withOfNone();
        withNobody();
        plusOfWhoIsNotThere();
        minusOfAnother();
        plusTakesFromAnother();
        ifOfWhatIsNotThere();
        ifAsksThen();
        hasOfNobody();
        hasWhatOutside();
        hasNothing();
        awayFromTheFirstOn();
        awayTillAheadOfTheSecond();
        awayPastMidnight();
        awayAlikeIsNever();
        leansOnWhatIsNotThere();
        leansOnItself();
        livesByRoom();
        livesByBars();
        livesByCannot();
        worthOfAll();
        doesOutside();
        doesPastMidnight();
        doesOfLikeOnesTheLeast();
        doesNothingThatHeCannot();
        doesByTheWillAnew();
        doneOfNothing();
        doneOnlyIfAnother();
        doneOfTheLastClause();
        quarrelOutside();
        quarrelOfNone();
        quarrelAtTheLastHour();
        quarrelPastMidnight();
        quarrelOrder();
        quarrelOfTwoHeirs();
        quarrelOfWhatHeCannot();
        Due.end();
    }

    // ---- 9: A REFUSAL more: how many. BAD; FULL. REFUSALS, 12 at most: an HEIR (0 to 5), a habit (0 to 7).

    private static void refuseOutside() {
        HabitWill x = new HabitWill();
        for (int heir : new int[] {-1, 6, LEAST, MOST}) {
            Due.is("9: heir " + heir, x.refuse(heir, 0), BAD);
        }
        for (int habit : new int[] {-1, 8, LEAST, MOST}) {
            Due.is("9: habit " + habit, x.refuse(0, habit), BAD);
        }
        Due.is("9: none came of it", x.count(6), 0);
    }

    private static HabitWill full() {
        HabitWill x = new HabitWill();
        for (int n = 1; n <= 12; n++) {
            Due.is("9: how many", x.refuse(n % 6, n % 8), n);
        }
        return x;
    }

    private static void refuseTillFull() {
        HabitWill x = full();
        Due.is("9: a thirteenth", x.refuse(0, 0), FULL);
        Due.is("9: and again", x.refuse(5, 7), FULL);
        Due.is("9: twelve stand", x.count(6), 12);
    }

    private static void refuseBadAheadOfFull() {
        HabitWill x = full();
        Due.is("9: heir 6 when full", x.refuse(6, 0), BAD);
        Due.is("9: habit 8 when full", x.refuse(0, 8), BAD);
    }

    private static void refuseWhoOrWhatIsNotThere() {
        HabitWill x = new HabitWill();
        Due.is("9: without heirs or habits", x.refuse(5, 7), 1);
        Due.is("9: the least of both", x.refuse(0, 0), 2);
        Due.typeAll(x, 0, "a15..");
        Due.typeAll(x, 1, "8mm");
        Due.typeAll(x, 2, "0+0");
        Due.is("9: it holds for who comes later", x.with(0), NONE);
    }

    private static void refuseAlikeTwice() {
        HabitWill x = Due.estate("a15..", "8mm", "0+0");
        Due.is("9: once", x.refuse(0, 0), 1);
        Due.is("9: the same once more", x.refuse(0, 0), 2);
        x.back();
        Due.is("9: one of them stands", x.with(0), NONE);
        x.back();
        Due.is("9: none stands", x.with(0), 0);
    }

    private static void refuseMinusStands() {
        HabitWill x = Due.estate("a15..", "8mm;8mm", "0+0;0-0;0+1;0-1");
        x.refuse(1, 0);
        Due.is("9: only CLAUSES with + do nothing", x.done(), 1 | 2);
    }

    // ---- 10: The last REFUSAL is undone: how many are left. NOT: there is none.

    private static void backOfNone() {
        HabitWill x = new HabitWill();
        Due.is("10: of none", x.back(), NOT);
        x.refuse(0, 0);
        Due.is("10: of one", x.back(), 0);
        Due.is("10: of none again", x.back(), NOT);
        Due.is("10: count", x.count(6), 0);
    }

    private static void backOfFull() {
        HabitWill x = full();
        for (int left = 11; left >= 0; left--) {
            Due.is("10: how many are left", x.back(), left);
        }
        Due.is("10: none is left", x.back(), NOT);
        x = full();
        x.back();
        Due.is("10: there is place for one again", x.refuse(0, 0), 12);
    }

    private static void backUndoesTheLast() {
        HabitWill x = Due.estate("a15..;c15..", "8mm", "0+0;1+0");
        x.refuse(0, 1);
        x.refuse(0, 0);
        Due.is("10: both refused", x.has(0, 0), 0);
        x.back();
        Due.is("10: the last, not the first", x.has(0, 0), 1);
    }

    // ---- 11: VALUE of a DAY: what it was. BAD. DAYS 0 to 6 of an HEIR (0 to 5; 0 to 9 each; 1 at first).

    private static void valueOutside() {
        HabitWill x = new HabitWill();
        for (int n : new int[] {-1, LEAST, MOST}) {
            Due.is("11: heir " + n, x.value(n, 0, 0), BAD);
            Due.is("11: day " + n, x.value(0, n, 0), BAD);
            Due.is("11: v " + n, x.value(0, 0, n), BAD);
        }
        Due.is("11: heir 6", x.value(6, 0, 0), BAD);
        Due.is("11: day 7", x.value(0, 7, 0), BAD);
        Due.is("11: day -1 of heir 1 is no day of heir 0", x.value(1, -1, 0), BAD);
        Due.is("11: v 10", x.value(0, 0, 10), BAD);
        for (int heir = 0; heir < 6; heir++) {
            for (int day = 0; day < 7; day++) {
                Due.is("11: nothing came of it", x.value(heir, day, 1), 1);
            }
        }
    }

    private static void valueAtItsEnds() {
        HabitWill x = new HabitWill();
        Due.is("11: 0", x.value(0, 0, 0), 1);
        Due.is("11: it was 0", x.value(0, 0, 9), 0);
        Due.is("11: it was 9", x.value(0, 0, 5), 9);
        Due.is("11: the last one", x.value(5, 6, 9), 1);
        Due.is("11: it was 9", x.value(5, 6, 0), 9);
    }

    private static void valueAtFirst() {
        HabitWill x = new HabitWill();
        for (int heir = 0; heir < 6; heir++) {
            for (int day = 0; day < 7; day++) {
                Due.is("11: 1 at first", x.value(heir, day, 9), 1);
            }
        }
    }

    // ---- 12: With whom a habit is; NONE. BAD.

    private static void withOfNone() {
        HabitWill x = Due.estate("a15..;b15..", "8mm", "0+0;1+0;2+0");
        for (int habit : new int[] {-1, 2, 7, 8, LEAST, MOST}) {
            Due.is("12: habit " + habit, x.with(habit), BAD);
        }
        Due.is("12: without habits", new HabitWill().with(0), BAD);
    }

    private static void withNobody() {
        HabitWill x = Due.estate("a15..;b15..", "8mm", "0+0");
        Due.is("12: no clause tells it", x.with(1), NONE);
        Due.is("12: without a will", Due.estate("a15..", "8mm", "").with(0), NONE);
        x = Due.estate("a10..;b10..;c10..;d10..;e10..;f10..;g10..;h10..", "8mm;8mm;8mm;8mm;8mm;8mm", "7+5;0+0");
        Due.is("12: the last with the last", x.with(7), 5);
        Due.is("12: the first with the first", x.with(0), 0);
    }

    private static void plusOfWhoIsNotThere() {
        HabitWill x = Due.estate("a15..", "8mm", "0+1");
        Due.is("12: an heir who is not there", x.with(0), NONE);
        Due.typeAll(x, 1, ";8mm");
        Due.is("12: he comes", x.with(0), 1);
        x = Due.estate("a15..", "8mm", "0+0;0+1");
        Due.is("12: it stays with who had it", x.with(0), 0);
        Due.is("12: a habit that is not there", Due.estate("a15..", "8mm", "1+0").has(0, 0), 0);
    }

    private static void minusOfAnother() {
        HabitWill x = Due.estate("a15..", "8mm;8mm", "0+0;0-1");
        Due.is("12: not undone by another", x.with(0), 0);
        Due.typeAll(x, 2, ";0-0");
        Due.is("12: undone by its own", x.with(0), NONE);
        Due.typeAll(x, 2, ";0-0");
        Due.is("12: undone twice", x.with(0), NONE);
    }

    private static void plusTakesFromAnother() {
        HabitWill x = Due.estate("a15..", "8mm;8mm", "0+0;0+1");
        Due.is("12: with the later", x.with(0), 1);
        Due.is("12: with nobody else", x.has(0, 0), 0);
    }

    private static void ifOfWhatIsNotThere() {
        HabitWill x = Due.estate("a15..", "8mm", "0+0?7");
        Due.is("12: asks for what is not there", x.with(0), NONE);
        Due.is("12: asks for itself, with nobody yet", Due.estate("a15..", "8mm", "0+0?0").with(0), NONE);
        Due.is("12: asks for itself, to undo it", Due.estate("a15..", "8mm", "0+0;0-0?0").with(0), NONE);
    }

    private static void ifAsksThen() {
        Due.is("12: it comes only later", Due.estate("a15..;b15..", "8mm;8mm", "0+0?1;1+1").with(0), NONE);
        Due.is("12: it was there ahead", Due.estate("a15..;b15..", "8mm;8mm", "1+1;0+0?1").with(0), 0);
        Due.is("12: it was undone by then", Due.estate("a15..;b15..", "8mm;8mm", "1+1;1-1;0+0?1").with(0), NONE);
        Due.is("12: undone later all the same", Due.estate("a15..;b15..", "8mm;8mm", "1+1;0+0?1;1-1").with(0), 0);
    }

    // ---- 13: What an HEIR has (what = 0), CANNOT have of it (1), as bits; WORTH (2); whether he LIVES (3). BAD.

    private static void hasOfNobody() {
        HabitWill x = Due.estate("a15..", "8mm;8mm", "0+0");
        for (int heir : new int[] {-1, 2, 5, 6, LEAST, MOST}) {
            for (int what = 0; what < 4; what++) {
                Due.is("13: heir " + heir, x.has(heir, what), BAD);
            }
        }
        Due.is("13: without heirs", new HabitWill().has(0, 0), BAD);
    }

    private static void hasWhatOutside() {
        HabitWill x = Due.estate("a15..", "8mm", "0+0");
        for (int what : new int[] {-1, 4, LEAST, MOST}) {
            Due.is("13: what " + what, x.has(0, what), BAD);
        }
    }

    private static void hasNothing() {
        HabitWill x = Due.estate("", "1ab", "");
        Due.is("13: has nothing", x.has(0, 0), 0);
        Due.is("13: cannot nothing", x.has(0, 1), 0);
        Due.is("13: worth nothing", x.has(0, 2), 0);
        Due.is("13: and lives", x.has(0, 3), 1);
    }

    private static int cannot(String habit, String heir) {
        return Due.estate(habit, heir, "0+0").has(0, 1);
    }

    private static void awayFromTheFirstOn() {
        Due.is("13: ends ahead of it", cannot("d25..", "8fh"), 0);
        Due.is("13: the first hour of it", cannot("d35..", "8fh"), 1);
        Due.is("13: begins in it", cannot("f15..", "8fh"), 1);
    }

    private static void awayTillAheadOfTheSecond() {
        Due.is("13: the last hour of it", cannot("g15..", "8fh"), 1);
        Due.is("13: the hour in which he is back", cannot("h15..", "8fh"), 0);
        Due.is("13: all around it", cannot("e95..", "8fh"), 1);
        Due.is("13: till the last hour", cannot("x15..", "8ax"), 0);
        Due.is("13: all but the last hour", cannot("w15..", "8ax"), 1);
    }

    private static void awayPastMidnight() {
        Due.is("13: ahead of the evening", cannot("v15..", "8wc"), 0);
        Due.is("13: in the evening", cannot("w15..", "8wc"), 1);
        Due.is("13: at the last hour", cannot("x15..", "8wc"), 1);
        Due.is("13: at the first hour", cannot("a15..", "8wc"), 1);
        Due.is("13: ahead of the return", cannot("b15..", "8wc"), 1);
        Due.is("13: at the return", cannot("c15..", "8wc"), 0);
        Due.is("13: till midnight", cannot("a15..", "8xa"), 0);
        Due.is("13: the hour ahead of midnight", cannot("x15..", "8xa"), 1);
        Due.is("13: the habit goes past midnight", cannot("v95..", "8ab"), 1);
        Due.is("13: it ends at midnight", cannot("v35..", "8ab"), 0);
        Due.is("13: all but one hour", cannot("b15..", "8cb"), 0);
    }

    private static void awayAlikeIsNever() {
        for (char at = 'a'; at <= 'x'; at++) {
            Due.is("13: alike, never, " + at, cannot(at + "95..", "8" + at + at), 0);
        }
    }

    private static void leansOnWhatIsNotThere() {
        Due.is("13: no such habit", cannot("a157.", "8mm"), 1);
        Due.is("13: it is with nobody", Due.estate("a151.;b15..", "8mm", "0+0").has(0, 1), 1);
        Due.is("13: it is with another", Due.estate("a151.;b15..", "8mm;8mm", "0+0;1+1").has(0, 1), 1);
        Due.is("13: it is with him", Due.estate("a151.;b15..", "8mm;8mm", "0+0;1+0").has(0, 1), 0);
        Due.is("13: it is with him, who cannot have it", Due.estate("a151.;b15..", "8bc", "0+0;1+0").has(0, 1), 2);
        Due.is("13: only of what he has", Due.estate("a15..;b157.", "8mm", "0+0").has(0, 1), 0);
    }

    private static void leansOnItself() {
        Due.is("13: on itself", cannot("a150.", "8mm"), 0);
    }

    private static void livesByRoom() {
        String eight = "a10..;b10..;c10..;d10..;e10..;f10..;g10..;h10..";
        String all = "0+0;1+0;2+0;3+0;4+0;5+0;6+0;7+0";
        Due.is("13: eight in room for eight", Due.estate(eight, "8mm", all).has(0, 3), 1);
        Due.is("13: eight in room for seven", Due.estate(eight, "7mm", all).has(0, 3), 0);
        Due.is("13: one in room for one", Due.estate("a10..", "1mm", "0+0").has(0, 3), 1);
        Due.is("13: two in room for one", Due.estate("a10..;c10..", "1mm", "0+0;1+0").has(0, 3), 0);
        Due.is("13: all that eight are worth", Due.estate(eight.replace("0..", "9.."), "8mm", all).has(0, 2), 72);
    }

    private static int lives(String habits) {
        return Due.estate(habits, "8mm", "0+0;1+0").has(0, 3);
    }

    private static void livesByBars() {
        Due.is("13: one behind the other", lives("a35..;d15.."), 1);
        Due.is("13: at one hour", lives("a35..;c15.."), 0);
        Due.is("13: past midnight, one behind the other", lives("w25..;a15.."), 1);
        Due.is("13: past midnight, at one hour", lives("w35..;a15.."), 0);
        Due.is("13: past midnight, till the end", lives("x95..;h15.."), 0);
        Due.is("13: past midnight, behind the end", lives("x95..;i15.."), 1);
        Due.is("13: two of two heirs", Due.estate("a15..;a15..", "8mm;8mm", "0+0;1+1").has(0, 3), 1);
    }

    private static void livesByCannot() {
        Due.is("13: away", Due.estate("b15..", "8bc", "0+0").has(0, 3), 0);
        Due.is("13: leans in vain", Due.estate("b157.", "8mm", "0+0").has(0, 3), 0);
    }

    private static void worthOfAll() {
        Due.is("13: worth 0", Due.estate("a10..", "8mm", "0+0").has(0, 2), 0);
        Due.is("13: what he cannot have counts", Due.estate("a197.;b11..", "1ac", "0+0;1+0").has(0, 2), 10);
    }

    // ---- 14: What he DOES; NONE. BAD.

    private static void doesOutside() {
        HabitWill x = Due.estate("a15..;x15..", "8mm", "0+0;1+0");
        for (int heir : new int[] {-1, 1, 6, LEAST, MOST}) {
            Due.is("14: heir " + heir, x.does(heir, 0), BAD);
        }
        for (int hour : new int[] {-1, 24, LEAST, MOST}) {
            Due.is("14: hour " + hour, x.does(0, hour), BAD);
        }
        Due.is("14: hour 0", x.does(0, 0), 0);
        Due.is("14: hour 23", x.does(0, 23), 1);
        Due.is("14: hour 1", x.does(0, 1), NONE);
    }

    private static void doesPastMidnight() {
        HabitWill x = Due.estate("x95..", "8mm", "0+0");
        Due.is("14: ahead of it", x.does(0, 22), NONE);
        Due.is("14: its hour", x.does(0, 23), 0);
        Due.is("14: past midnight", x.does(0, 0), 0);
        Due.is("14: its last hour", x.does(0, 7), 0);
        Due.is("14: behind it", x.does(0, 8), NONE);
    }

    private static void doesOfLikeOnesTheLeast() {
        Due.is("14: the greatest worth", Due.estate("a15..;a16..", "8mm", "0+0;1+0").does(0, 0), 1);
        Due.is("14: the greatest worth, the first", Due.estate("a16..;a15..", "8mm", "0+0;1+0").does(0, 0), 0);
        Due.is("14: alike, the least", Due.estate("a15..;a15..", "8mm", "1+0;0+0").does(0, 0), 0);
        Due.is("14: worth 0", Due.estate("b15..;a10..;a10..", "8mm", "2+0;1+0").does(0, 0), 1);
    }

    private static void doesNothingThatHeCannot() {
        Due.is("14: the next one", Due.estate("a197.;a11..", "8mm", "0+0;1+0").does(0, 0), 1);
        Due.is("14: none is left", Due.estate("a197.", "8mm", "0+0").does(0, 0), NONE);
        HabitWill x = Due.estate("a35..", "8bc", "0+0");
        Due.is("14: he is away in another hour of it", x.does(0, 0), NONE);
        // more habits than room, or two that bar each other, are no habits that he cannot have
        Due.is("14: one too many", Due.estate("a15..;b15..", "1mm", "0+0;1+0").does(0, 1), 1);
    }

    private static void doesByTheWillAnew() {
        HabitWill x = Due.estate("a15..", "8mm", "0+0");
        Due.is("14: as the first call", x.does(0, 0), 0);
        x.refuse(0, 0);
        Due.is("14: behind a refusal", x.does(0, 0), NONE);
        x.back();
        x.whose(0);
        Due.is("14: behind whose", x.does(0, 0), 0);
        x.wills(3, 20, 0);
        Due.is("14: behind wills", x.does(0, 0), 0);
        x.wipe(2);
        Due.is("14: without a will", x.does(0, 0), NONE);
    }

    // ---- 15: CLAUSES that did something, as bits.

    private static void doneOfNothing() {
        Due.is("15: no will", new HabitWill().done(), 0);
        Due.is("15: no habits", Due.estate("", "8mm", "0+0").done(), 0);
        Due.is("15: no heirs", Due.estate("a15..", "", "0+0").done(), 0);
    }

    private static void doneOnlyIfAnother() {
        Due.is("15: with the same", Due.estate("a15..", "8mm", "0+0;0+0").done(), 1);
        Due.is("15: with nobody, undone", Due.estate("a15..", "8mm", "0-0").done(), 0);
        Due.is("15: an if that does not hold", Due.estate("a15..", "8mm", "0+0?0").done(), 0);
        Due.is("15: to and fro", Due.estate("a15..", "8mm;8mm", "0+0;0+1;0+0;0-1;0-0").done(), 1 | 2 | 4 | 16);
    }

    private static void doneOfTheLastClause() {
        Due.is("15: the fifteenth alone", Due.estate("a15..", "8mm", "1+0;1+0;1+0;1+0;1+0;1+0;1+0;1+0;1+0;1+0;1+0;1+0;1+0;1+0;0+0").done(), 1 << 14);
    }

    // ---- 16: QUARREL: the HOUR (what = 0), who (1), the habit (2), the next one (3); NONE. BAD.

    private static void quarrel(String name, HabitWill x, int... want) {
        for (int what = 0; what < 4; what++) {
            Due.is("16: " + name + ", " + what, x.quarrel(what), want[what]);
        }
    }

    private static void quarrelOutside() {
        HabitWill x = Due.estate("a15..;a15..", "8mm", "0+0;1+0");
        for (int what : new int[] {-1, 4, LEAST, MOST}) {
            Due.is("16: what " + what, x.quarrel(what), BAD);
            Due.is("16: what " + what + " where there is none", new HabitWill().quarrel(what), BAD);
        }
    }

    private static void quarrelOfNone() {
        quarrel("nothing there", new HabitWill(), NONE, NONE, NONE, NONE);
        quarrel("one behind the other", Due.estate("a15..;b15..", "8mm", "0+0;1+0"), NONE, NONE, NONE, NONE);
        quarrel("with nobody", Due.estate("a15..;a15..", "8mm", ""), NONE, NONE, NONE, NONE);
    }

    private static void quarrelAtTheLastHour() {
        quarrel("at 23", Due.estate("x15..;x15..", "8mm", "0+0;1+0"), 23, 0, 0, 1);
        quarrel("at 0", Due.estate("a15..;a15..", "8mm", "0+0;1+0"), 0, 0, 0, 1);
    }

    private static void quarrelPastMidnight() {
        quarrel("past midnight, though they meet ahead of it", Due.estate("w35..;x25..", "8mm", "0+0;1+0"), 0, 0, 0, 1);
    }

    private static void quarrelOrder() {
        quarrel("hour ahead of who", Due.estate("c15..;c15..;b15..;b15..", "8mm;8mm", "0+0;1+0;2+1;3+1"), 1, 1, 2, 3);
        quarrel("who, the least", Due.estate("b15..;b15..;b15..;b15..", "8mm;8mm", "0+1;1+1;2+0;3+0"), 1, 0, 2, 3);
        quarrel("of three the least two", Due.estate("b15..;b15..;b15..;b15..", "8mm", "3+0;2+0;1+0"), 1, 0, 1, 2);
        quarrel("the last heir, the last habits", Due.estate("a10..;a10..;a10..;a10..;a10..;a10..;g10..;g10..",
            "8mm;8mm;8mm;8mm;8mm;8mm", "0+0;1+1;2+2;3+3;4+4;5+5;6+5;7+5"), 6, 5, 6, 7);
    }

    private static void quarrelOfTwoHeirs() {
        quarrel("two of two heirs do not", Due.estate("a15..;a15..", "8mm;8mm", "0+0;1+1"), NONE, NONE, NONE, NONE);
    }

    private static void quarrelOfWhatHeCannot() {
        quarrel("he has them though he cannot", Due.estate("b157.;b157.", "8bc", "0+0;1+0"), 1, 0, 0, 1);
    }
}
