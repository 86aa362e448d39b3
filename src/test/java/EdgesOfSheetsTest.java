import java.math.BigInteger;

/** The boundary cases of sheets, counts and the digest, one test for each sentence that names one: promises 27 to 34. */
public final class EdgesOfSheetsTest {
    private static final int NONE = HabitWill.NONE, BAD = HabitWill.BAD;
    private static final int LEAST = Integer.MIN_VALUE, MOST = Integer.MAX_VALUE;
    private static final int NULL = -11, INDEX = -12, CAST = -13, STORE = -14, SIZE = -15;
    private static final int[] NO_SHEETS = {-1, 4, LEAST, MOST};
    private static final int[] NO_FORMS = {-1, 3, LEAST, MOST};

    public static void main(String[] args) {
        sheetOutside();
        sheetAboveSixty();
        sheetBelowNothing();
        sheetBadAheadOfSize();
        sheetOfNoItems();
        sheetOfSixty();
        sheetIsNew();
        loseOfNoSheet();
        loseOfALostOne();
        loseTellsHowMany();
        layOutside();
        layOfALostOne();
        layOfAnotherForm();
        layOfNoSuchItem();
        layInOrder();
        layLowestBits();
        getOutside();
        getOfALostOne();
        getOfAnotherForm();
        getOfNoSuchItem();
        getInOrder();
        getOfTheLeastInt();
        copyOutside();
        copyOfLostOnes();
        copyOfUnlikeForms();
        copyBelowNothing();
        copyOfNotSoMany();
        copyInOrder();
        copyOfNoItems();
        copyToTheEnds();
        copyOverItself();
        copyPastTheIntsEnd();
        hoursOutside();
        hoursOfALostSheet();
        hoursOfFewItems();
        hoursOfManyItems();
        hoursOfNothing();
        hoursByTheWillAnew();
        countOutside();
        countAtItsMost();
        countOfTheLatestFinding();
        countOfFindingIsLeftByBad();
        digestOfANewObject();
        digestWraps();
        digestAsItIsTold();
        digestWithoutSheets();
        theLastOfSoManyCalls();
        Due.end();
    }

    private static void finding(String name, HabitWill x, int want) {
        Due.is(name + ", count() 8", x.count(8), want);
    }

    // ---- 27: A SHEET is a new row of a FORM with n items: n. BAD: SHEET, FORM, above 60; SIZE.

    private static void sheetOutside() {
        HabitWill x = new HabitWill();
        for (int s : NO_SHEETS) {
            Due.is("27: sheet " + s, x.sheet(s, 0, 1), BAD);
        }
        for (int form : NO_FORMS) {
            Due.is("27: form " + form, x.sheet(0, form, 1), BAD);
        }
        finding("27: BAD", x, 0);
        Due.is("27: none came of it", x.lose(0), NULL);
    }

    private static void sheetAboveSixty() {
        HabitWill x = new HabitWill();
        x.sheet(0, 1, 2);
        Due.is("27: 61", x.sheet(0, 2, 61), BAD);
        Due.is("27: most", x.sheet(0, 2, MOST), BAD);
        finding("27: BAD", x, 0);
        Due.is("27: it is as it was", x.lose(0), 2);
    }

    private static void sheetBelowNothing() {
        HabitWill x = new HabitWill();
        x.sheet(0, 1, 2);
        Due.is("27: -1", x.sheet(0, 2, -1), SIZE);
        finding("27: SIZE", x, 5);
        Due.is("27: least", x.sheet(1, 2, LEAST), SIZE);
        Due.is("27: it is as it was", x.get(0, 1, 1), 0);
        Due.is("27: nor did one come", x.lose(1), NULL);
    }

    private static void sheetBadAheadOfSize() {
        HabitWill x = new HabitWill();
        Due.is("27: sheet 4", x.sheet(4, 0, -1), BAD);
        Due.is("27: form 3", x.sheet(0, 3, -1), BAD);
        finding("27: BAD", x, 0);
    }

    private static void sheetOfNoItems() {
        for (int form = 0; form < 3; form++) {
            HabitWill x = new HabitWill();
            Due.is("27: no items", x.sheet(3, form, 0), 0);
            Due.is("27: it is not lost", x.lose(3), 0);
        }
    }

    private static void sheetOfSixty() {
        for (int form = 0; form < 3; form++) {
            HabitWill x = new HabitWill();
            Due.is("27: sixty", x.sheet(0, form, 60), 60);
            for (int i = 0; i < 60; i++) {
                Due.is("27: 0 at first", x.get(0, form, i), 0);
            }
            Due.is("27: the last item", x.lay(0, form, 59, 7), 1);
            Due.is("27: the last item", x.get(0, form, 59), 7);
            Due.is("27: none behind it", x.lay(0, form, 60, 7), INDEX);
        }
    }

    private static void sheetIsNew() {
        HabitWill x = new HabitWill();
        x.sheet(1, 2, 60);
        for (int i = 0; i < 60; i++) {
            x.lay(1, 2, i, i + 1);
        }
        x.sheet(1, 2, 3);
        Due.is("27: new items", x.get(1, 2, 2), 0);
        Due.is("27: fewer items", x.get(1, 2, 3), LEAST);
        x.sheet(1, 0, 60);
        Due.is("27: nothing of the old row", x.get(1, 0, 40), 0);
        Due.is("27: of another form", x.get(1, 2, 0), LEAST);
        finding("27: CAST", x, 3);
        x.lose(1);
        x.sheet(1, 0, 60);
        Due.is("27: nothing behind a loss", x.get(1, 0, 59), 0);
    }

    // ---- 28: It is LOST: how many items it had. BAD; NULL.

    private static void loseOfNoSheet() {
        HabitWill x = new HabitWill();
        for (int s : NO_SHEETS) {
            Due.is("28: sheet " + s, x.lose(s), BAD);
        }
        finding("28: BAD", x, 0);
    }

    private static void loseOfALostOne() {
        for (int s = 0; s < 4; s++) {
            HabitWill x = new HabitWill();
            Due.is("28: at first", x.lose(s), NULL);
            finding("28: NULL", x, 1);
            x.sheet(s, 0, 5);
            x.lose(s);
            Due.is("28: twice", x.lose(s), NULL);
        }
    }

    private static void loseTellsHowMany() {
        HabitWill x = new HabitWill();
        for (int n = 0; n <= 60; n += 20) {
            x.sheet(2, 1, n);
            Due.is("28: how many", x.lose(2), n);
        }
        x.sheet(0, 0, 1);
        x.sheet(1, 0, 2);
        x.lose(0);
        Due.is("28: the others stay", x.lose(1), 2);
    }

    // ---- 29: Item i, treated as of a FORM, becomes v (the lowest bits that it has): 1. BAD; NULL; CAST; INDEX.

    private static void layOutside() {
        HabitWill x = new HabitWill();
        for (int s : NO_SHEETS) {
            Due.is("29: sheet " + s, x.lay(s, 0, 0, 0), BAD);
        }
        x.sheet(0, 0, 1);
        for (int form : NO_FORMS) {
            Due.is("29: form " + form, x.lay(0, form, 0, 9), BAD);
        }
        finding("29: BAD", x, 0);
        Due.is("29: as it was", x.get(0, 0, 0), 0);
    }

    private static void layOfALostOne() {
        HabitWill x = new HabitWill();
        Due.is("29: lost", x.lay(0, 0, 0, 0), NULL);
        finding("29: NULL", x, 1);
    }

    private static void layOfAnotherForm() {
        for (int form = 0; form < 3; form++) {
            for (int other = 0; other < 3; other++) {
                HabitWill x = new HabitWill();
                x.sheet(0, form, 1);
                Due.is("29: " + form + " as " + other, x.lay(0, other, 0, 5), form == other ? 1 : CAST);
                finding("29: CAST", x, form == other ? 0 : 3);
                Due.is("29: the item", x.get(0, form, 0), form == other ? 5 : 0);
            }
        }
    }

    private static void layOfNoSuchItem() {
        HabitWill x = new HabitWill();
        x.sheet(0, 2, 3);
        for (int i : new int[] {-1, 3, 59, 60, LEAST, MOST}) {
            Due.is("29: item " + i, x.lay(0, 2, i, 9), INDEX);
        }
        finding("29: INDEX", x, 2);
        Due.is("29: the first", x.lay(0, 2, 0, 9), 1);
        Due.is("29: the last", x.lay(0, 2, 2, 9), 1);
        x.sheet(1, 2, 0);
        Due.is("29: of no items", x.lay(1, 2, 0, 9), INDEX);
    }

    private static void layInOrder() {
        HabitWill x = new HabitWill();
        Due.is("29: BAD ahead of NULL", x.lay(0, 3, -1, 0), BAD);
        Due.is("29: NULL ahead of CAST and INDEX", x.lay(0, 0, -1, 0), NULL);
        x.sheet(0, 1, 3);
        Due.is("29: BAD ahead of INDEX", x.lay(0, 3, -1, 0), BAD);
        Due.is("29: CAST ahead of INDEX", x.lay(0, 0, -1, 0), CAST);
        Due.is("29: INDEX", x.lay(0, 1, -1, 0), INDEX);
    }

    private static void layLowestBits() {
        int[][] due = {
            {127, 127, 127, 127}, {128, -128, 128, 128}, {255, -1, 255, 255}, {256, 0, 256, 256},
            {-128, -128, -128, -128}, {-129, 127, -129, -129}, {32767, -1, 32767, 32767},
            {32768, 0, -32768, 32768}, {65535, -1, -1, 65535}, {65536, 0, 0, 65536}, {-32769, -1, 32767, -32769},
            {MOST, -1, -1, MOST}, {LEAST, 0, 0, LEAST}, {-1, -1, -1, -1}};
        for (int[] row : due) {
            for (int form = 0; form < 3; form++) {
                HabitWill x = new HabitWill();
                x.sheet(0, form, 3);
                Due.is("29: lay " + row[0], x.lay(0, form, 1, row[0]), 1);
                Due.is("29: " + row[0] + " of form " + form, x.get(0, form, 1), row[1 + form]);
                Due.is("29: the one ahead", x.get(0, form, 0), 0);
                Due.is("29: the one behind", x.get(0, form, 2), 0);
            }
        }
    }

    // ---- 30: Item i of it. BAD: the least int; so are NULL, CAST, INDEX (count() 8 tells).

    private static void getOutside() {
        HabitWill x = new HabitWill();
        for (int s : NO_SHEETS) {
            Due.is("30: sheet " + s, x.get(s, 0, 0), LEAST);
        }
        x.sheet(0, 0, 1);
        for (int form : NO_FORMS) {
            Due.is("30: form " + form, x.get(0, form, 0), LEAST);
        }
        finding("30: BAD", x, 0);
    }

    private static void getOfALostOne() {
        HabitWill x = new HabitWill();
        Due.is("30: lost", x.get(0, 0, 0), LEAST);
        finding("30: NULL", x, 1);
    }

    private static void getOfAnotherForm() {
        for (int form = 0; form < 3; form++) {
            for (int other = 0; other < 3; other++) {
                HabitWill x = new HabitWill();
                x.sheet(0, form, 1);
                Due.is("30: " + form + " as " + other, x.get(0, other, 0), form == other ? 0 : LEAST);
                finding("30: CAST", x, form == other ? 0 : 3);
            }
        }
    }

    private static void getOfNoSuchItem() {
        for (int i : new int[] {-1, 3, 59, 60, LEAST, MOST}) {
            HabitWill x = new HabitWill();
            x.sheet(0, 2, 3);
            Due.is("30: item " + i, x.get(0, 2, i), LEAST);
            finding("30: INDEX", x, 2);
        }
        HabitWill x = new HabitWill();
        x.sheet(0, 2, 0);
        Due.is("30: of no items", x.get(0, 2, 0), LEAST);
        finding("30: INDEX", x, 2);
    }

    private static void getInOrder() {
        HabitWill x = new HabitWill();
        x.get(0, 3, -1);
        finding("30: BAD ahead of NULL", x, 0);
        x.get(0, 0, -1);
        finding("30: NULL ahead of CAST and INDEX", x, 1);
        x.sheet(0, 1, 3);
        x.get(0, 0, -1);
        finding("30: CAST ahead of INDEX", x, 3);
        x.get(0, 1, -1);
        finding("30: INDEX", x, 2);
    }

    private static void getOfTheLeastInt() {
        HabitWill x = new HabitWill();
        x.sheet(0, 2, 1);
        x.lay(0, 2, 0, LEAST);
        Due.is("30: an item that is the least int", x.get(0, 2, 0), LEAST);
        finding("30: no finding", x, 0);
    }

    // ---- 31: n items of SHEET s, from i on, come to SHEET t from j on: 1. BAD: the SHEETS; NULL; STORE; INDEX.

    /** Sheets 0 and 1 of a form with 5 and 4 items, of another form 2, and 3 lost. */
    private static HabitWill sheets(int form) {
        HabitWill x = new HabitWill();
        x.sheet(0, form, 5);
        x.sheet(1, form, 4);
        x.sheet(2, (form + 1) % 3, 9);
        for (int i = 0; i < 5; i++) {
            x.lay(0, form, i, 10 + i);
        }
        for (int i = 0; i < 4; i++) {
            x.lay(1, form, i, 20 + i);
        }
        return x;
    }

    private static void row(String name, HabitWill x, int s, int form, int... want) {
        for (int i = 0; i < want.length; i++) {
            Due.is(name + ", item " + i, x.get(s, form, i), want[i]);
        }
    }

    private static void asTheyWere(String name, HabitWill x, int form) {
        row(name, x, 0, form, 10, 11, 12, 13, 14);
        row(name, x, 1, form, 20, 21, 22, 23);
    }

    private static void copyOutside() {
        HabitWill x = sheets(0);
        for (int s : NO_SHEETS) {
            Due.is("31: s is " + s, x.copy(s, 0, 0, 0, 1), BAD);
            Due.is("31: t is " + s, x.copy(0, 0, s, 0, 1), BAD);
        }
        finding("31: BAD", x, 0);
        asTheyWere("31: BAD", x, 0);
    }

    private static void copyOfLostOnes() {
        HabitWill x = sheets(1);
        Due.is("31: s is lost", x.copy(3, 0, 0, 0, 1), NULL);
        finding("31: NULL", x, 1);
        x = sheets(1);
        Due.is("31: t is lost", x.copy(0, 0, 3, 0, 1), NULL);
        finding("31: NULL", x, 1);
        Due.is("31: both are lost", x.copy(3, 0, 3, 0, 0), NULL);
        asTheyWere("31: NULL", x, 1);
    }

    private static void copyOfUnlikeForms() {
        for (int form = 0; form < 3; form++) {
            HabitWill x = sheets(form);
            Due.is("31: unlike", x.copy(0, 0, 2, 0, 1), STORE);
            finding("31: STORE", x, 4);
            Due.is("31: unlike, the other way", x.copy(2, 0, 0, 0, 1), STORE);
            Due.is("31: unlike, none of them", x.copy(2, 0, 0, 0, 0), STORE);
            asTheyWere("31: STORE", x, form);
        }
    }

    private static void copyBelowNothing() {
        for (int low : new int[] {-1, LEAST}) {
            HabitWill x = sheets(2);
            Due.is("31: i is " + low, x.copy(0, low, 1, 0, 1), INDEX);
            finding("31: INDEX", x, 2);
            Due.is("31: j is " + low, x.copy(0, 0, 1, low, 1), INDEX);
            Due.is("31: n is " + low, x.copy(0, 0, 1, 0, low), INDEX);
            Due.is("31: i is " + low + ", none of them", x.copy(0, low, 1, 0, 0), INDEX);
            Due.is("31: j is " + low + ", none of them", x.copy(0, 0, 1, low, 0), INDEX);
            asTheyWere("31: INDEX", x, 2);
        }
    }

    private static void copyOfNotSoMany() {
        HabitWill x = sheets(0);
        Due.is("31: s has not so many", x.copy(1, 0, 0, 0, 5), INDEX);
        finding("31: INDEX", x, 2);
        Due.is("31: t has not so many", x.copy(0, 0, 1, 0, 5), INDEX);
        Due.is("31: from i on not so many", x.copy(0, 3, 1, 0, 3), INDEX);
        Due.is("31: from j on not so many", x.copy(0, 0, 1, 2, 3), INDEX);
        Due.is("31: i behind the end", x.copy(0, 6, 1, 0, 0), INDEX);
        Due.is("31: j behind the end", x.copy(0, 0, 1, 5, 0), INDEX);
        asTheyWere("31: INDEX", x, 0);
    }

    private static void copyInOrder() {
        HabitWill x = sheets(0);
        Due.is("31: BAD ahead of NULL", x.copy(3, -1, 4, -1, -1), BAD);
        Due.is("31: BAD of s ahead of NULL of t", x.copy(4, -1, 3, -1, -1), BAD);
        Due.is("31: NULL ahead of INDEX", x.copy(3, -1, 0, -1, -1), NULL);
        Due.is("31: STORE ahead of INDEX", x.copy(0, -1, 2, -1, -1), STORE);
        Due.is("31: INDEX", x.copy(0, -1, 1, -1, -1), INDEX);
    }

    private static void copyOfNoItems() {
        HabitWill x = sheets(0);
        Due.is("31: none", x.copy(0, 0, 1, 0, 0), 1);
        Due.is("31: none, at both ends", x.copy(0, 5, 1, 4, 0), 1);
        x.sheet(3, 0, 0);
        Due.is("31: none of none", x.copy(3, 0, 3, 0, 0), 1);
        finding("31: none", x, 0);
        asTheyWere("31: none", x, 0);
    }

    private static void copyToTheEnds() {
        for (int form = 0; form < 3; form++) {
            HabitWill x = sheets(form);
            Due.is("31: all of the smaller", x.copy(1, 0, 0, 1, 4), 1);
            row("31: all of the smaller", x, 0, form, 10, 20, 21, 22, 23);
            x = sheets(form);
            Due.is("31: the last to the last", x.copy(0, 4, 1, 3, 1), 1);
            row("31: the last to the last", x, 1, form, 20, 21, 22, 14);
            x = new HabitWill();
            x.sheet(0, form, 60);
            x.sheet(1, form, 60);
            x.lay(0, form, 59, 7);
            Due.is("31: sixty", x.copy(0, 0, 1, 0, 60), 1);
            Due.is("31: the sixtieth", x.get(1, form, 59), 7);
        }
    }

    private static void copyOverItself() {
        for (int form = 0; form < 3; form++) {
            HabitWill x = sheets(form);
            Due.is("31: on", x.copy(0, 0, 0, 1, 4), 1);
            row("31: on, as they were", x, 0, form, 10, 10, 11, 12, 13);
            x = sheets(form);
            Due.is("31: back", x.copy(0, 1, 0, 0, 4), 1);
            row("31: back, as they were", x, 0, form, 11, 12, 13, 14, 14);
            x = sheets(form);
            Due.is("31: in place", x.copy(0, 0, 0, 0, 5), 1);
            row("31: in place", x, 0, form, 10, 11, 12, 13, 14);
        }
    }

    private static void copyPastTheIntsEnd() {
        HabitWill x = sheets(2);
        Due.is("31: i and n wrap", x.copy(0, MOST, 1, 0, MOST), INDEX);
        Due.is("31: i at the end of ints", x.copy(0, MOST, 1, 0, 1), INDEX);
        Due.is("31: j at the end of ints", x.copy(0, 0, 1, MOST, 1), INDEX);
        Due.is("31: n at the end of ints", x.copy(0, 1, 1, 1, MOST), INDEX);
        asTheyWere("31: INDEX", x, 2);
    }

    // ---- 32: What an HEIR DOES in HOURS 0 on (NONE) comes to a SHEET, 24 at most: how many. BAD; NULL.

    private static HabitWill busy() {
        return Due.estate("x25..;c15..", "8mm;8mm", "0+0;1+0");
    }

    private static void hoursOutside() {
        HabitWill x = busy();
        x.sheet(0, 0, 24);
        for (int heir : new int[] {-1, 2, 5, 6, LEAST, MOST}) {
            Due.is("32: heir " + heir, x.hours(heir, 0), BAD);
        }
        for (int s : NO_SHEETS) {
            Due.is("32: sheet " + s, x.hours(0, s), BAD);
        }
        Due.is("32: BAD ahead of NULL", x.hours(2, 3), BAD);
        finding("32: BAD", x, 0);
        row("32: BAD", x, 0, 0, 0, 0, 0);
    }

    private static void hoursOfALostSheet() {
        HabitWill x = busy();
        Due.is("32: lost", x.hours(0, 3), NULL);
        finding("32: NULL", x, 1);
    }

    private static void hoursOfFewItems() {
        for (int n = 0; n <= 3; n++) {
            HabitWill x = busy();
            x.sheet(0, 1, n);
            Due.is("32: " + n + " items", x.hours(0, 0), n);
            int[] want = {0, -1, 1};
            for (int i = 0; i < n; i++) {
                Due.is("32: hour " + i, x.get(0, 1, i), want[i]);
            }
        }
    }

    private static void hoursOfManyItems() {
        for (int n : new int[] {23, 24, 25, 60}) {
            for (int form = 0; form < 3; form++) {
                HabitWill x = busy();
                x.sheet(0, form, n);
                for (int i = 0; i < n; i++) {
                    x.lay(0, form, i, 99);
                }
                Due.is("32: " + n + " items", x.hours(0, 0), Math.min(n, 24));
                for (int i = 0; i < n; i++) {
                    int want = i == 0 || i == 23 ? 0 : i == 2 ? 1 : i < 24 ? NONE : 99;
                    Due.is("32: item " + i + " of " + n, x.get(0, form, i), want);
                }
            }
        }
    }

    private static void hoursOfNothing() {
        HabitWill x = busy();
        x.sheet(0, 2, 24);
        Due.is("32: one who does nothing", x.hours(1, 0), 24);
        for (int i = 0; i < 24; i++) {
            Due.is("32: NONE", x.get(0, 2, i), NONE);
        }
    }

    private static void hoursByTheWillAnew() {
        HabitWill x = busy();
        x.sheet(0, 2, 3);
        x.hours(0, 0);
        row("32: as the first call of the will", x, 0, 2, 0, -1, 1);
        x.refuse(0, 0);
        x.hours(0, 0);
        row("32: behind a refusal", x, 0, 2, -1, -1, 1);
        x.back();
        x.whose(1);
        x.hours(0, 0);
        row("32: behind whose", x, 0, 2, 0, -1, 1);
    }

    // ---- 33: count(). BAD.

    private static void countOutside() {
        HabitWill x = busy();
        for (int what : new int[] {-1, 9, LEAST, MOST}) {
            Due.is("33: what " + what, x.count(what), BAD);
        }
    }

    private static void countAtItsMost() {
        HabitWill x = Due.estate("a10..;a10..;a10..;a10..;a10..;a10..;a10..;a10..", "1aa;1aa;1aa;1aa;1aa;1aa",
            "0+0;0+0;0+0;0+0;0+0;0+0;0+0;0+0;0+0;0+0;0+0;0+0;0+0;0+0;0+0");
        for (int n = 0; n < 13; n++) {
            x.refuse(0, 0);
            x.seen(0, 0, 0);
        }
        x.sheet(0, 0, -1);
        int[] want = {8, 6, 15, 47, 23, 59, 12, 8, 5};
        for (int what = 0; what <= 8; what++) {
            Due.is("33: count " + what, x.count(what), want[what]);
        }
    }

    private static void countOfTheLatestFinding() {
        HabitWill x = new HabitWill();
        finding("33: before any", x, 0);
        x.lose(0);
        finding("33: NULL", x, 1);
        x.sheet(0, 0, -1);
        finding("33: SIZE", x, 5);
        x.sheet(0, 0, 1);
        finding("33: it stays by what is well", x, 5);
        x.lay(0, 1, 0, 0);
        finding("33: CAST", x, 3);
        x.lay(0, 0, 1, 0);
        finding("33: INDEX", x, 2);
        x.sheet(1, 1, 1);
        x.copy(0, 0, 1, 0, 1);
        finding("33: STORE", x, 4);
    }

    private static void countOfFindingIsLeftByBad() {
        HabitWill x = new HabitWill();
        x.sheet(0, 0, -1);
        x.sheet(4, 0, 0);
        x.lose(4);
        x.lay(4, 0, 0, 0);
        x.get(4, 0, 0);
        x.copy(4, 0, 0, 0, 0);
        x.hours(0, 0);
        x.read(4);
        x.undo(0);
        x.back();
        finding("33: BAD and NOT are no FINDINGS", x, 5);
    }

    // ---- 34: h is 17; h becomes 31 h and each of: ..; as longs that wrap.

    private static void digestOfANewObject() {
        Due.is("34: a new object", new HabitWill().digest(), digestByCalls(new HabitWill()));
    }

    private static BigInteger mix(BigInteger h, long... each) {
        BigInteger sum = h;
        for (long next : each) {
            sum = sum.multiply(BigInteger.valueOf(31)).add(BigInteger.valueOf(next));
        }
        return sum;
    }

    /** Without any wrap, till the end. */
    private static long digestByCalls(HabitWill x) {
        BigInteger h = BigInteger.valueOf(17);
        for (int what = 0; what <= 7; what++) {
            h = mix(h, x.count(what));
        }
        h = mix(h, x.fault(0), x.fault(1), x.fault(2));
        for (int it = 0; it < x.count(0); it++) {
            h = mix(h, x.habit(it, 0), x.habit(it, 1), x.habit(it, 2), x.habit(it, 3), x.habit(it, 4), x.with(it),
                x.whose(it), x.look(it, 0));
        }
        for (int it = 0; it < x.count(1); it++) {
            h = mix(h, x.heir(it, 0), x.heir(it, 1), x.heir(it, 2), x.has(it, 0), x.has(it, 1), x.has(it, 2), x.has(it, 3),
                x.does(it, 0), x.does(it, 7), x.does(it, 20), x.write(it, 0), x.write(it, 1), x.part(0, it, 0),
                x.part(0, it, 1), x.march(5, it, 1, 0), x.march(5, it, 1, 1), x.wills(7, 9, it));
        }
        for (int it = 0; it < x.count(2); it++) {
            h = mix(h, x.clause(it, 0), x.clause(it, 1), x.clause(it, 2), x.clause(it, 3));
        }
        h = mix(h, x.done(), x.quarrel(0), x.quarrel(1), x.quarrel(2), x.quarrel(3), x.best(NONE), x.best(0));
        return h.longValue();
    }

    private static void digestWraps() {
        HabitWill x = Due.estate("u35.!;h79..;a150!;t190.;g25.!;x983.;v17.!;e95.!", "8mm;2ab;1xa;3aa;4wx;8cb",
            "0+0;1+1;2+2;3+3;4+4;5+5;6+0;7+1;0+1?3;1-1?2;2+0");
        x.refuse(1, 1);
        x.seen(3, 0, NONE);
        x.value(2, 3, 8);
        Due.is("34: far beyond longs", x.digest(), digestByCalls(x));
        Due.is("34: once more", x.digest(), digestByCalls(x));
    }

    private static void digestAsItIsTold() {
        HabitWill noHeirs = Due.estate("a15..", "", "");
        Due.is("34: look(it, 0) is BAD without heirs", noHeirs.look(0, 0), BAD);
        Due.is("34: without heirs", noHeirs.digest(), digestByCalls(noHeirs));
        HabitWill noHabits = Due.estate("", "8mm;8mm", "");
        Due.is("34: wills is BAD without habits", noHabits.wills(7, 9, 0), BAD);
        Due.is("34: part(0, 0, ..) is BAD", noHabits.part(0, 0, 0), BAD);
        Due.is("34: without habits", noHabits.digest(), digestByCalls(noHabits));
        HabitWill faults = Due.estate("a15", "8m", "0+");
        Due.is("34: with faults", faults.digest(), digestByCalls(faults));
    }

    private static void digestWithoutSheets() {
        HabitWill x = busy();
        long before = x.digest();
        x.sheet(0, 0, 60);
        x.lay(0, 0, 0, 9);
        x.lose(3);
        Due.is("34: SHEETS and count() 8 do not come in", x.digest(), before);
        x.type(0, ';');
        x.undo(0);
        Due.is("34: undone, as it was", x.digest(), before);
    }

    // ---- An object is used for at most 512 calls after it has been made.

    private static void theLastOfSoManyCalls() {
        HabitWill x = new HabitWill();
        for (int pair = 0; pair < 255; pair++) {
            Due.is("call " + (2 * pair + 1), x.type(0, 'a'), 1);
            Due.is("call " + (2 * pair + 2), x.undo(0), 0);
        }
        Due.is("call 511", x.sheet(3, 2, 60), 60);
        Due.is("call 512", x.digest(), new HabitWill().digest());
    }
}
