/** The boundary cases of the three texts, one test for each sentence that names one: terms, and promises 1 to 8. */
public final class EdgesOfTextsTest {
    private static final int NONE = HabitWill.NONE, BAD = HabitWill.BAD, NOT = HabitWill.NOT, FULL = HabitWill.FULL;
    private static final int LEAST = Integer.MIN_VALUE, MOST = Integer.MAX_VALUE;
    private static final int[] NO_TEXTS = {-1, 3, 4, 256, LEAST, MOST};
    private static final String EIGHT_HABITS = "a11..;b12..;c13..;d14..;e15..;f16..;g17..;x987!";
    private static final String SIX_HEIRS = "1ab;2cd;3ef;4gh;5ij;8xx";
    private static final String FIFTEEN_CLAUSES = "0+0;0-1;0+2;0-3;0+4;0-5;1+0;1-1;1+2;1-3;1+4;1-5;2+0;2-1;7+5";
    private static final String[] LONGEST = {EIGHT_HABITS, SIX_HEIRS, FIFTEEN_CLAUSES};

    public static void main(String[] args) {
        newObjectHasNothing();
        newObjectHasLostSheets();
        newObjectsShareNothing();
        typeTellsHowMany();
        typeByteTooSmall();
        typeByteTooLarge();
        typeOfNoText();
        typeIntoFull();
        typeBadAheadOfFull();
        typeOnBehindFull();
        wipeOfEmpty();
        wipeOfFull();
        wipeOfNoText();
        wipeMendsAFault();
        undoOfEmpty();
        undoTheOnlyByte();
        undoOfFull();
        undoOfNoText();
        undoMendsAFault();
        faultOfNoText();
        faultOfEmpty();
        faultAtEachByteOfHabits();
        faultAtEachByteOfHeirs();
        faultAtEachByteOfTheWill();
        faultOfWhatIsNotEnded();
        faultBehindSemicolon();
        faultIsTheFirst();
        faultOfTheLongest();
        withAFaultAsIfEmpty();
        habitThatIsNotThere();
        habitWhatOutside();
        habitFiguresAtTheirEnds();
        heirThatIsNotThere();
        heirWhatOutside();
        heirFiguresAtTheirEnds();
        clauseThatIsNotThere();
        clauseWhatOutside();
        clauseFiguresAtTheirEnds();
        Due.end();
    }

    // ---- 1: No habits, no HEIRS, no WILL; all SHEETS are LOST.

    private static void newObjectHasNothing() {
        HabitWill x = new HabitWill();
        for (int what = 0; what <= 8; what++) {
            Due.is("1: count " + what, x.count(what), 0);
        }
        Due.is("1: habit 0", x.habit(0, 0), BAD);
        Due.is("1: heir 0", x.heir(0, 0), BAD);
        Due.is("1: clause 0", x.clause(0, 0), BAD);
        Due.is("1: done", x.done(), 0);
        Due.is("1: quarrel", x.quarrel(0), NONE);
    }

    private static void newObjectHasLostSheets() {
        for (int s = 0; s < 4; s++) {
            HabitWill x = new HabitWill();
            Due.is("1: sheet " + s + " is lost", x.lose(s), -11);
            Due.is("1: and that was found", x.count(8), 1);
        }
    }

    private static void newObjectsShareNothing() {
        HabitWill one = Due.estate(EIGHT_HABITS, SIX_HEIRS, FIFTEEN_CLAUSES);
        one.refuse(0, 0);
        one.seen(0, 0, 0);
        one.value(0, 0, 9);
        one.sheet(0, 0, 1);
        one.lose(3);
        HabitWill other = new HabitWill();
        for (int what = 0; what <= 8; what++) {
            Due.is("1: count " + what + " of another", other.count(what), 0);
        }
        Due.is("1: value of another", other.value(0, 0, 1), 1);
        Due.is("1: sheet of another", other.lose(0), -11);
    }

    // ---- 2: A byte (0 to 255) comes behind a text: how many. BAD; FULL.

    private static void typeTellsHowMany() {
        for (int text = 0; text < 3; text++) {
            HabitWill x = new HabitWill();
            for (int i = 0; i < LONGEST[text].length(); i++) {
                Due.is("2: type " + i, x.type(text, LONGEST[text].charAt(i)), i + 1);
                Due.is("2: bytes of it", x.count(3 + text), i + 1);
            }
            Due.is("2: all rows came", x.count(text), new int[] {8, 6, 15}[text]);
        }
    }

    private static void typeByteTooSmall() {
        HabitWill x = new HabitWill();
        Due.is("2: byte -1", x.type(0, -1), BAD);
        Due.is("2: byte -256", x.type(1, -256), BAD);
        Due.is("2: byte least", x.type(2, LEAST), BAD);
        Due.is("2: byte 0", x.type(0, 0), 1);
    }

    private static void typeByteTooLarge() {
        HabitWill x = new HabitWill();
        Due.is("2: byte 256", x.type(0, 256), BAD);
        // by its lowest bits it would be a letter
        Due.is("2: byte 256 and a letter", x.type(0, 256 + 'a'), BAD);
        Due.is("2: byte most", x.type(2, MOST), BAD);
        Due.is("2: byte 255", x.type(0, 255), 1);
    }

    private static void typeOfNoText() {
        HabitWill x = new HabitWill();
        for (int text : NO_TEXTS) {
            Due.is("2: text " + text, x.type(text, 'a'), BAD);
        }
        for (int text = 0; text < 3; text++) {
            Due.is("2: it came to none", x.count(3 + text), 0);
        }
    }

    private static HabitWill full(int text) {
        HabitWill x = new HabitWill();
        Due.typeAll(x, text, LONGEST[text]);
        return x;
    }

    private static void typeIntoFull() {
        int[] most = {47, 23, 59};
        for (int text = 0; text < 3; text++) {
            HabitWill x = full(text);
            Due.is("2: bytes of full text " + text, x.count(3 + text), most[text]);
            Due.is("2: full text " + text, x.type(text, ';'), FULL);
            Due.is("2: full text " + text + " again", x.type(text, 0), FULL);
            Due.is("2: it has no byte more", x.count(3 + text), most[text]);
            Due.is("2: and is well", x.fault(text), NONE);
        }
    }

    private static void typeBadAheadOfFull() {
        for (int text = 0; text < 3; text++) {
            HabitWill x = full(text);
            Due.is("2: byte 256 to full text " + text, x.type(text, 256), BAD);
            Due.is("2: byte -1 to full text " + text, x.type(text, -1), BAD);
        }
    }

    private static void typeOnBehindFull() {
        for (int text = 0; text < 3; text++) {
            HabitWill x = full(text);
            x.type(text, 'z');
            int n = LONGEST[text].length();
            Due.is("2: undo", x.undo(text), n - 1);
            Due.is("2: type on", x.type(text, LONGEST[text].charAt(n - 1)), n);
            Due.is("2: well again", x.fault(text), NONE);
        }
    }

    // ---- 3: A text is empty: how many bytes it had. BAD.

    private static void wipeOfEmpty() {
        for (int text = 0; text < 3; text++) {
            Due.is("3: wipe of empty " + text, new HabitWill().wipe(text), 0);
        }
    }

    private static void wipeOfFull() {
        for (int text = 0; text < 3; text++) {
            HabitWill x = full(text);
            Due.is("3: wipe of full " + text, x.wipe(text), LONGEST[text].length());
            Due.is("3: bytes", x.count(3 + text), 0);
            Due.is("3: rows", x.count(text), 0);
            Due.is("3: type from the start", x.type(text, 'q'), 1);
        }
    }

    private static void wipeOfNoText() {
        HabitWill x = full(0);
        for (int text : NO_TEXTS) {
            Due.is("3: text " + text, x.wipe(text), BAD);
        }
        Due.is("3: bytes", x.count(3), 47);
    }

    private static void wipeMendsAFault() {
        for (int text = 0; text < 3; text++) {
            HabitWill x = new HabitWill();
            x.type(text, '#');
            Due.is("3: a fault", x.fault(text), 0);
            Due.is("3: wipe", x.wipe(text), 1);
            Due.is("3: an empty one is well", x.fault(text), NONE);
            Due.typeAll(x, text, LONGEST[text]);
            Due.is("3: nothing of it is left", x.fault(text), NONE);
        }
    }

    // ---- 4: The last byte of a text is undone: how many are left. BAD; NOT: it is empty.

    private static void undoOfEmpty() {
        for (int text = 0; text < 3; text++) {
            HabitWill x = new HabitWill();
            Due.is("4: undo of empty " + text, x.undo(text), NOT);
            Due.is("4: undo of empty " + text + " again", x.undo(text), NOT);
            Due.is("4: bytes", x.count(3 + text), 0);
            x.type(text, 'a');
            x.wipe(text);
            Due.is("4: undo of a wiped one", x.undo(text), NOT);
        }
    }

    private static void undoTheOnlyByte() {
        for (int text = 0; text < 3; text++) {
            HabitWill x = new HabitWill();
            x.type(text, '#');
            Due.is("4: the only byte", x.undo(text), 0);
            Due.is("4: an empty one is well", x.fault(text), NONE);
            Due.is("4: none is left", x.undo(text), NOT);
        }
    }

    private static void undoOfFull() {
        for (int text = 0; text < 3; text++) {
            HabitWill x = full(text);
            for (int left = LONGEST[text].length() - 1; left >= 0; left--) {
                Due.is("4: undo", x.undo(text), left);
                Due.is("4: bytes left", x.count(3 + text), left);
            }
            Due.is("4: undo of none", x.undo(text), NOT);
        }
    }

    private static void undoOfNoText() {
        HabitWill x = full(1);
        for (int text : NO_TEXTS) {
            Due.is("4: text " + text, x.undo(text), BAD);
        }
        Due.is("4: bytes", x.count(4), 23);
    }

    private static void undoMendsAFault() {
        HabitWill x = Due.estate("a15..#", "", "");
        Due.is("4: a fault", x.fault(0), 5);
        x.undo(0);
        Due.is("4: well again", x.fault(0), NONE);
        Due.is("4: a habit again", x.count(0), 1);
    }

    // ---- 5: The FAULT of a text; NONE. BAD.

    private static void faultOfNoText() {
        for (int text : NO_TEXTS) {
            Due.is("5: text " + text, new HabitWill().fault(text), BAD);
        }
    }

    private static void faultOfEmpty() {
        for (int text = 0; text < 3; text++) {
            Due.is("5: an empty one is well, " + text, new HabitWill().fault(text), NONE);
        }
    }

    private static int faultOf(int text, String signs) {
        HabitWill x = new HabitWill();
        Due.typeAll(x, text, signs);
        return x.fault(text);
    }

    /** Each byte at a place behind a good start: it is the fault, or the text goes on or is well. */
    private static void eachByte(int text, String start, String good) {
        for (int b = 0; b < 256; b++) {
            HabitWill x = new HabitWill();
            Due.typeAll(x, text, start);
            x.type(text, b);
            boolean goesOn = good.indexOf(b) >= 0;
            int fault = x.fault(text);
            Due.is("5: byte " + b + " behind '" + start + "'", fault == start.length() ? 0 : 1, goesOn ? 1 : 0);
        }
    }

    private static void faultAtEachByteOfHabits() {
        eachByte(0, "", "abcdefghijklmnopqrstuvwx");
        eachByte(0, "a", "123456789");
        eachByte(0, "a1", "0123456789");
        eachByte(0, "a10", ".01234567");
        eachByte(0, "a10.", ".!");
        eachByte(0, "a107", ".!");
        eachByte(0, "a10..", ";");
        eachByte(0, "a107!;", "abcdefghijklmnopqrstuvwx");
        eachByte(0, "a107!;x9", "0123456789");
    }

    private static void faultAtEachByteOfHeirs() {
        eachByte(1, "", "12345678");
        eachByte(1, "1", "abcdefghijklmnopqrstuvwx");
        eachByte(1, "1a", "abcdefghijklmnopqrstuvwx");
        eachByte(1, "1aa", ";");
        eachByte(1, "1aa;", "12345678");
        eachByte(1, "1aa;8x", "abcdefghijklmnopqrstuvwx");
    }

    private static void faultAtEachByteOfTheWill() {
        eachByte(2, "", "01234567");
        eachByte(2, "0", "+-");
        eachByte(2, "0+", "012345");
        eachByte(2, "0-", "012345");
        eachByte(2, "0+0", ";?");
        eachByte(2, "0+0?", "01234567");
        eachByte(2, "0+0?0", ";");
        eachByte(2, "0+0;", "01234567");
        eachByte(2, "0+0?7;7-5", ";?");
    }

    private static void faultOfWhatIsNotEnded() {
        int[] rowLengths = {6, 4, 4};
        for (int text = 0; text < 3; text++) {
            for (int n = 1; n < LONGEST[text].length(); n++) {
                int want = n % rowLengths[text] == rowLengths[text] - 1 ? NONE : n;
                Due.is("5: the first " + n + " of text " + text, faultOf(text, LONGEST[text].substring(0, n)), want);
            }
        }
        Due.is("5: an if that is not ended", faultOf(2, "0+0?"), 4);
    }

    private static void faultBehindSemicolon() {
        Due.is("5: habits end by ;", faultOf(0, "a10..;"), 6);
        Due.is("5: heirs end by ;", faultOf(1, "1aa;"), 4);
        Due.is("5: the will ends by ;", faultOf(2, "0+0;"), 4);
        Due.is("5: it ends by ; behind an if", faultOf(2, "0+0?0;"), 6);
    }

    private static void faultIsTheFirst() {
        Due.is("5: habits", faultOf(0, "a10..;a00..;#"), 7);
        Due.is("5: heirs", faultOf(1, "1aa;9#"), 4);
        Due.is("5: the will", faultOf(2, "0+0;0+6;#"), 6);
        Due.is("5: what is behind it mends nothing", faultOf(0, "#a10.."), 0);
    }

    private static void faultOfTheLongest() {
        Due.is("5: eight habits", faultOf(0, EIGHT_HABITS), NONE);
        Due.is("5: six heirs", faultOf(1, SIX_HEIRS), NONE);
        Due.is("5: fifteen clauses", faultOf(2, FIFTEEN_CLAUSES), NONE);
        Due.is("5: ten clauses with ifs", faultOf(2, "0+0?0;0+0?0;0+0?0;0+0?0;0+0?0;0+0?0;0+0?0;0+0?0;0+0?0;7-5?7"), NONE);
        Due.is("5: the last byte of 47", faultOf(0, EIGHT_HABITS.substring(0, 46) + "?"), 46);
        Due.is("5: the last byte of 23", faultOf(1, SIX_HEIRS.substring(0, 22) + "y"), 22);
        Due.is("5: the last byte of 59", faultOf(2, FIFTEEN_CLAUSES.substring(0, 58) + "6"), 58);
    }

    private static void withAFaultAsIfEmpty() {
        HabitWill x = Due.estate("a15..;b15..", "8mm", "0+0;1+0");
        x.type(2, ';');
        Due.is("5: a will with a fault", x.with(0), NONE);
        Due.is("5: has no clause", x.clause(0, 0), BAD);
        x.undo(2);
        x.type(1, ';');
        Due.is("5: heirs with a fault", x.heir(0, 0), BAD);
        Due.is("5: nobody is there", x.with(0), NONE);
        x.undo(1);
        x.type(0, ';');
        Due.is("5: habits with a fault", x.habit(0, 0), BAD);
        Due.is("5: none is there", x.has(0, 0), 0);
        Due.is("5: bytes are there", x.count(3), 12);
        x.undo(0);
        Due.is("5: all is as it was", x.with(1), 0);
    }

    // ---- 6: HOUR (what = 0), how LONG (1), WORTH (2), on which it LEANS (3; NONE), whether it is a VICE (4). BAD.

    private static void habitThatIsNotThere() {
        HabitWill x = Due.estate("a15..;b15..", "", "");
        for (int habit : new int[] {-1, 2, 7, 8, LEAST, MOST}) {
            Due.is("6: habit " + habit, x.habit(habit, 0), BAD);
        }
        Due.is("6: of none", new HabitWill().habit(0, 0), BAD);
        Due.is("6: the eighth", full(0).habit(7, 0), 23);
        Due.is("6: the ninth", full(0).habit(8, 0), BAD);
    }

    private static void habitWhatOutside() {
        HabitWill x = full(0);
        for (int what : new int[] {-1, 5, LEAST, MOST}) {
            Due.is("6: what " + what, x.habit(0, what), BAD);
            Due.is("6: what " + what + " of none", x.habit(8, what), BAD);
        }
    }

    private static void habitFiguresAtTheirEnds() {
        HabitWill x = Due.estate("a100.;x997!;a10..", "", "");
        int[][] want = {{0, 1, 0, 0, 0}, {23, 9, 9, 7, 1}, {0, 1, 0, NONE, 0}};
        for (int habit = 0; habit < 3; habit++) {
            for (int what = 0; what < 5; what++) {
                Due.is("6: habit " + habit + ", " + what, x.habit(habit, what), want[habit][what]);
            }
        }
    }

    // ---- 7: ROOM (what = 0), from which HOUR (1) to which (2) he is AWAY. BAD.

    private static void heirThatIsNotThere() {
        HabitWill x = Due.estate("", "1aa;1aa", "");
        for (int heir : new int[] {-1, 2, 5, 6, LEAST, MOST}) {
            Due.is("7: heir " + heir, x.heir(heir, 0), BAD);
        }
        Due.is("7: of none", new HabitWill().heir(0, 0), BAD);
        Due.is("7: the sixth", full(1).heir(5, 0), 8);
        Due.is("7: the seventh", full(1).heir(6, 0), BAD);
    }

    private static void heirWhatOutside() {
        HabitWill x = full(1);
        for (int what : new int[] {-1, 3, LEAST, MOST}) {
            Due.is("7: what " + what, x.heir(0, what), BAD);
        }
    }

    private static void heirFiguresAtTheirEnds() {
        HabitWill x = Due.estate("", "1ax;8xa", "");
        int[][] want = {{1, 0, 23}, {8, 23, 0}};
        for (int heir = 0; heir < 2; heir++) {
            for (int what = 0; what < 3; what++) {
                Due.is("7: heir " + heir + ", " + what, x.heir(heir, what), want[heir][what]);
            }
        }
    }

    // ---- 8: The habit (what = 0), whether it comes (1), the HEIR (2), the habit that it asks for (3; NONE). BAD.

    private static void clauseThatIsNotThere() {
        HabitWill x = Due.estate("", "", "0+0;1+1");
        for (int clause : new int[] {-1, 2, 14, 15, LEAST, MOST}) {
            Due.is("8: clause " + clause, x.clause(clause, 0), BAD);
        }
        Due.is("8: of none", new HabitWill().clause(0, 0), BAD);
        Due.is("8: the fifteenth", full(2).clause(14, 0), 7);
        Due.is("8: the sixteenth", full(2).clause(15, 0), BAD);
    }

    private static void clauseWhatOutside() {
        HabitWill x = full(2);
        for (int what : new int[] {-1, 4, LEAST, MOST}) {
            Due.is("8: what " + what, x.clause(0, what), BAD);
        }
    }

    private static void clauseFiguresAtTheirEnds() {
        HabitWill x = Due.estate("", "", "0-0?0;7+5?7;0-0");
        int[][] want = {{0, 0, 0, 0}, {7, 1, 5, 7}, {0, 0, 0, NONE}};
        for (int clause = 0; clause < 3; clause++) {
            for (int what = 0; what < 4; what++) {
                Due.is("8: clause " + clause + ", " + what, x.clause(clause, what), want[clause][what]);
            }
        }
    }
}
