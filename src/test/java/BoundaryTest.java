/** Each sentence of the document that names a boundary: the last value that is allowed, the first that is not. */
public final class BoundaryTest extends Answers {
    private static final int[] NO_CELLS = {DEEP, -2, -1, 64, FAR};
    private static final int[] NO_SHEETS = {DEEP, -1, 6, FAR};
    private static final int[] NO_PUPILS = {DEEP, -1, 0, 6, FAR};
    private static final int[] NO_NUMBERS = {DEEP, -10000, 10000, FAR};
    private static final long MOST = 1000000000000L;
    private static final String DIGITS = "0123456789";
    private static final String SIGNS = "+-*/";
    private static final String OPENING = "-(SM";
    private static final String COLUMNS = "ABCDEFGH";
    private static final String ROWS = "12345678";

    public static void main(String[] args) {
        terms();
        formulas();
        lessons();
        reckoning();
        marks();
        asking();
        end();
    }

    private static void terms() {
        cells();
        noCells();
        namesOfCells();
        sheets();
        pupils();
        numbers();
        newObject();
        tapeIsFull();
        highestByteFirst();
        twoObjects();
        calls();
    }

    private static void formulas() {
        fortyBytes();
        bytesOfTheTape();
        emptyText();
        digits();
        bytesThatCanStand();
        bytesWithinBrackets();
        theEnd();
        sixOpen();
        openTillTheFactorEnds();
        firstFault();
        faultLeavesTheCell();
    }

    private static void lessons() {
        inputs();
        worlds();
        gifts();
        wanted();
        pointsOneToHundred();
        cleared();
    }

    private static void reckoning() {
        inputWhateverIsInIt();
        roundedDown();
        byZero();
        aboveTheGreatest();
        belowTheGreatest();
        greatOnTheWay();
        greatWrapsNot();
        rectangles();
        rectangleAddsAsItComes();
        metFirst();
        circleOfOne();
        circleOfAll();
        circlesAndInputs();
        rightFigures();
        rightFiguresOfAll();
        rightCircles();
    }

    private static void marks() {
        rightInAllWorlds();
        typedInOneWorld();
        carriedInAllWorlds();
        withoutWorlds();
        oneError();
        changesAtTheEdges();
        changesOfNumbers();
        changesOfSigns();
        changesInOrder();
        notChanged();
        shares();
        total();
    }

    private static void asking() {
        whatOfSlip();
        faultsByNumber();
        copiedByNumber();
        copiedTexts();
        whatOfLook();
        coming();
        whatOfCount();
    }

    /** A new object with some worlds. */
    private static SheetMarker withWorlds(int many) {
        SheetMarker x = new SheetMarker();
        for (int w = 0; w < many; w++) {
            x.world();
        }
        return x;
    }

    // ---- Terms: cells, sheets, numbers, the tape

    private static void cells() {
        sentence("CELLS 0 to 63: the first and the last");
        for (int c = 0; c < 64; c += 63) {
            SheetMarker x = withWorlds(1);
            due("number in " + c, x.number(1, c, 5), true);
            due("look at " + c, x.look(1, c, 1), 5);
            due("value of " + c, x.value(1, c, 0), 5);
            due("error of " + c, x.error(1, c, 0), 0);
            due("right of " + c, x.right(1, c, 0), 5);
            due("rightError of " + c, x.rightError(1, c, 0), 0);
            due("clear of " + c, x.clear(1, c), true);
            due("look at " + c, x.look(1, c, 0), 0);
            due("formula in " + c, write(x, 0, c, "=1"), 0);
            due("formula in " + c, write(x, 1, c, "=2"), 0);
            due("formula in " + c, write(x, 2, c, "=2"), 0);
            due("wants " + c, x.wants(c, 10), true);
            due("count of " + c, x.count(100 + c), 10);
            due("all points", x.count(3), 10);
            due("kind of " + c, x.kind(1, c), 4);
            due("points of " + c, x.points(1, c), 5);
            due("slip of " + c, x.slip(1, c, 0), 1);
            due("slip of " + c, x.slip(1, c, 1), 1);
            due("fault is " + c, x.fault(1, 0), c);
            due("copied is " + c, x.copied(1, 2, 0), c);
            due("come to " + c, x.look(1, c, 2), 0);
            SheetMarker y = withWorlds(1);
            due("input " + c, y.input(c), true);
            due("give to " + c, y.give(0, c, 7), true);
            due("value of input " + c, y.value(0, c, 0), 7);
        }
    }

    private static void noCells() {
        sentence("CELLS 0 to 63: no others");
        SheetMarker x = withWorlds(1);
        x.input(0);
        x.wants(63, 1);
        for (int c : NO_CELLS) {
            due("number in " + c, x.number(1, c, 5), false);
            due("formula in " + c, write(x, 1, c, "=1"), -1);
            due("the tape stays", x.count(4) > 0, true);
            due("and is taken", write(x, 1, 9, "=1"), 0);
            due("clear of " + c, x.clear(1, c), false);
            due("input " + c, x.input(c), false);
            due("wants " + c, x.wants(c, 1), false);
            due("give to " + c, x.give(0, c, 7), false);
            due("value of " + c, x.value(1, c, 0), -1);
            due("error of " + c, x.error(1, c, 0), -1);
            due("right of " + c, x.right(1, c, 0), -1);
            due("rightError of " + c, x.rightError(1, c, 0), -1);
            due("kind of " + c, x.kind(1, c), -1);
            due("points of " + c, x.points(1, c), c == -1 ? 0 : -1);
            due("slip of " + c, x.slip(1, c, 0), -1);
            due("slip of " + c, x.slip(1, c, 1), -1);
            for (int what = 0; what < 50; what++) {
                due("look at " + c, x.look(1, c, what), -1);
            }
        }
    }

    private static void namesOfCells() {
        sentence("8 times (row - 1) and the column, rows 1 to 8, columns A to H");
        SheetMarker x = withWorlds(1);
        for (int c = 0; c < 63; c++) {
            x.number(1, c, 100 + c);
        }
        for (int row = 1; row <= 8; row++) {
            for (int column = 0; column < 8 && row * 8 + column < 71; column++) {
                String text = "=" + COLUMNS.charAt(column) + ROWS.charAt(row - 1);
                due("formula " + text, write(x, 1, 63, text), 0);
                due("value of " + text, x.value(1, 63, 0), 100 + 8 * (row - 1) + column);
            }
        }
        x.number(1, 63, 163);
        due("formula =H8", write(x, 1, 0, "=H8"), 0);
        due("value of =H8", x.value(1, 0, 0), 163);
    }

    private static void sheets() {
        sentence("SHEET 0 is THE TASK, 1 to 5 are pupils'");
        SheetMarker x = withWorlds(1);
        for (int s = 0; s < 6; s++) {
            due("number in " + s, x.number(s, 1, 10 + s), true);
            due("formula in " + s, write(x, s, "C1", "=B1+1"), 0);
            due("number in " + s, x.number(s, 3, 1), true);
            due("clear in " + s, x.clear(s, 3), true);
        }
        for (int s = 0; s < 6; s++) {
            due("look at " + s, x.look(s, 1, 1), 10 + s);
            due("value in " + s, x.value(s, 2, 0), 11 + s);
            due("error in " + s, x.error(s, 2, 0), 0);
            due("right in " + s, x.right(s, 2, 0), 11 + s);
            due("rightError in " + s, x.rightError(s, 2, 0), 0);
        }
        for (int s : NO_SHEETS) {
            due("number in " + s, x.number(s, 1, 1), false);
            feedText(x, "=1");
            due("formula in " + s, x.formula(s, 1, 2), -1);
            due("the tape is taken", x.formula(1, 4, 2), 0);
            due("clear in " + s, x.clear(s, 1), false);
            due("look at " + s, x.look(s, 1, 0), -1);
            due("look at " + s, x.look(s, 1, 1), -1);
            due("look at " + s, x.look(s, 1, 2), -1);
            due("look at " + s, x.look(s, 2, 10), -1);
            due("value in " + s, x.value(s, 1, 0), -1);
            due("error in " + s, x.error(s, 1, 0), -1);
            due("right in " + s, x.right(s, 1, 0), -1);
            due("rightError in " + s, x.rightError(s, 1, 0), -1);
        }
    }

    private static void pupils() {
        sentence("1 to 5 are pupils': kinds, points, slips, faults, what is copied");
        SheetMarker x = withWorlds(1);
        x.wants(1, 10);
        write(x, 0, 1, "=1");
        for (int s = 1; s < 6; s++) {
            due("formula in " + s, write(x, s, 1, "=2"), 0);
        }
        for (int s = 1; s < 6; s++) {
            due("kind in " + s, x.kind(s, 1), 4);
            due("points in " + s, x.points(s, 1), 5);
            due("total of " + s, x.points(s, -1), 5);
            due("slip in " + s, x.slip(s, 1, 0), 1);
            due("slip in " + s, x.slip(s, 1, 1), 1);
            due("fault in " + s, x.fault(s, 0), 1);
            for (int t = 0; t < 7; t++) {
                boolean two = t > 0 && t < 6 && t != s;
                due("copied by " + s + " and " + t, x.copied(s, t, 0), two ? 1 : -1);
            }
        }
        for (int s : NO_PUPILS) {
            due("kind in " + s, x.kind(s, 1), -1);
            due("points in " + s, x.points(s, 1), -1);
            due("total of " + s, x.points(s, -1), -1);
            due("slip in " + s, x.slip(s, 1, 0), -1);
            due("slip in " + s, x.slip(s, 1, 1), -1);
            due("fault in " + s, x.fault(s, 0), -1);
            due("copied by " + s, x.copied(s, 1, 0), -1);
            due("copied by " + s, x.copied(1, s, 0), -1);
            due("copied by " + s + " twice", x.copied(s, s, 0), -1);
        }
    }

    private static void numbers() {
        sentence("a NUMBER (-9999 to 9999)");
        SheetMarker x = withWorlds(1);
        for (int v : new int[] {-9999, -1, 0, 1, 9999}) {
            due("number " + v, x.number(4, 5, v), true);
            due("it is there", x.look(4, 5, 0), 1);
            due("it is there", x.look(4, 5, 1), v);
            due("its value", x.value(4, 5, 0), v);
        }
        for (int v : NO_NUMBERS) {
            due("number " + v, x.number(4, 5, v), false);
            due("the old one stays", x.look(4, 5, 1), 9999);
            due("number " + v, x.number(4, 6, v), false);
            due("stays empty", x.look(4, 6, 0), 0);
        }
        due("a number 0 is no empty cell", x.number(4, 6, 0) ? x.look(4, 6, 0) : -9, 1);
    }

    private static void newObject() {
        sentence("EMPTY SHEETS, no INPUTS, WANTED, WORLDS");
        SheetMarker x = new SheetMarker();
        for (int s = 0; s < 6; s++) {
            for (int c = 0; c < 64; c++) {
                due("holds", x.look(s, c, 0), 0);
            }
        }
        for (int what = 0; what < 5; what++) {
            due("count", x.count(what), 0);
        }
        due("no world", x.value(0, 0, 0), -1);
        due("no input", x.give(0, 0, 1), false);
        due("nothing wanted", x.kind(1, 0), -1);
        due("nothing wanted", x.fault(1, 0), -1);
        due("total of nothing", x.points(1, -1), 0);
        due("nothing copied", x.copied(1, 2, 0), -1);
        due("nothing to clear", x.clear(0, 0), false);
        due("the first world", x.world(), 0);
    }

    private static void tapeIsFull() {
        sentence("how many it has; NONE if that would be more than 60");
        SheetMarker x = new SheetMarker();
        due("empty", x.count(4), 0);
        due("20", x.feed(word("=1+1", 0), word("+1+1", 0), word("+1+1", 0), word("+1+1", 0), word("+1+1", 0)), 20);
        due("40", x.feed(word("+1+1", 0), word("+1+1", 0), word("+1+1", 0), word("+1+1", 0), word("+1+2", 0)), 40);
        due("60", x.feed(0, 0, 0, 0, 0), 60);
        for (int i = 0; i < 3; i++) {
            due("80", x.feed(word("8888", 0), word("8888", 0), 0, FAR, DEEP), -1);
            due("60 stay", x.count(4), 60);
        }
        due("the first 40 are as they were", x.formula(2, 7, 40), 0);
        due("the last of them", x.look(2, 7, 49), '2');
        due("empty again", x.count(4), 0);
        due("20 again", x.feed(0, 0, 0, 0, 0), 20);
        due("and 40", x.feed(0, 0, 0, 0, 0), 40);
        due("and 60", x.feed(0, 0, 0, 0, 0), 60);
        due("and no more", x.feed(0, 0, 0, 0, 0), -1);
    }

    private static void highestByteFirst() {
        sentence("Twenty bytes come behind the tape, the highest of each int first");
        SheetMarker x = new SheetMarker();
        x.feed(0x3D313233, 0x2B343536, 0x2D373839, 0x2A414131, 0x2F424232);
        due("A stands at 13, and A behind it can't", x.formula(0, 0, 20), 114);
        x.feed(0x3D313233, 0x2B343536, 0x2D373839, 0x2A41312F, 0x48382B30);
        x.feed(0x2B353637, 0, 0, 0, 0);
        due("24 bytes of two feeds", x.formula(0, 0, 24), 0);
        String text = "=123+456-789*A1/H8+0+567";
        for (int i = 0; i < 24; i++) {
            due("byte " + i, x.look(0, 0, 10 + i), text.charAt(i));
        }
        for (int b = 128; b < 256; b++) {
            x.feed(0x3D310000 | b << 8, 0, 0, 0, 0);
            due("byte " + b + " is no other", x.formula(0, 0, 3), 102);
        }
    }

    private static void twoObjects() {
        sentence("All memory is the marker's own");
        SheetMarker one = lesson();
        SheetMarker other = new SheetMarker();
        writes(one, 1, "B1", "=A1+1");
        feedText(one, "=1");
        due("another's tape", other.count(4), 0);
        due("another's worlds", other.world(), 0);
        due("another's inputs", other.wants(0, 3), true);
        due("another's cells", other.clear(1, 1), false);
        due("another's kinds", other.kind(1, 0), 0);
        due("its own kinds behind that", one.kind(1, 1), 4);
        due("its own points", one.count(3), 10);
        due("its own tape", one.count(4), 20);
        due("its own figures", one.value(1, 1, 5), 7);
    }

    private static void calls() {
        sentence("An object is used for at most 512 calls");
        SheetMarker x = withWorlds(6);
        for (int i = 0; i < 16; i++) {
            x.wants(i, 1 + i);
            write(x, 0, i, "=" + (char) ('A' + i % 8) + "8+1");
            write(x, 1, i, "=" + (char) ('A' + i % 8) + "8+2");
        }
        for (int call = 6 + 16 * 5; call < 510; call++) {
            due("a total", x.points(1, -1), 64);
        }
        due("call 511", x.fault(1, 15), 15);
        due("call 512", x.slip(1, 15, 1), 1);
    }

    // ---- Formulas: their texts and faults

    private static void faulty(String text, int want) {
        due("formula " + text, write(new SheetMarker(), 0, 0, text), want);
    }

    private static String ones(int bytes) {
        StringBuilder text = new StringBuilder("=1");
        while (text.length() < bytes) {
            text.append(text.length() % 2 == 0 ? '+' : '1');
        }
        return text.toString();
    }

    private static void fortyBytes() {
        sentence("40 bytes at most; NONE: n above 40");
        SheetMarker x = withWorlds(1);
        due("40 bytes", write(x, 1, 0, ones(40)), 0);
        due("its length", x.look(1, 0, 1), 40);
        due("its value", x.value(1, 0, 0), 20);
        due("39 bytes, the last a sign", write(x, 1, 0, ones(39)), 139);
        due("38 bytes", write(x, 1, 0, ones(38)), 0);
        due("its value", x.value(1, 0, 0), 19);
        feedText(x, ones(42));
        for (int n : new int[] {41, 42, 60, 61, FAR}) {
            due("n " + n, x.formula(1, 1, n), -1);
            due("the tape stays", x.count(4), 60);
            due("the cell stays", x.look(1, 1, 0), 0);
        }
        due("n 40", x.formula(1, 1, 40), 0);
        due("the first 40", x.value(1, 1, 0), 20);
        due("the tape is empty", x.count(4), 0);
        due("a fault at the 40th", write(x, 1, 1, ones(39) + ")"), 139);
        due("a fault behind the 40th", write(x, 1, 1, ones(39) + "("), 140);
        due("the tape is empty", x.count(4), 0);
        due("the cell stays", x.look(1, 1, 1), 40);
    }

    private static void bytesOfTheTape() {
        sentence("the first n bytes of the tape; NONE: it has not so many");
        SheetMarker x = withWorlds(1);
        due("none of none", x.formula(0, 0, 0), 100);
        due("one of none", x.formula(0, 0, 1), -1);
        feedText(x, ones(20));
        due("21 of 20", x.formula(0, 0, 21), -1);
        due("40 of 20", x.formula(0, 0, 40), -1);
        due("the tape stays", x.count(4), 20);
        due("20 of 20", x.formula(0, 0, 20), 0);
        due("its value", x.value(0, 0, 0), 10);
        due("one of none", x.formula(0, 0, 1), -1);
        feedText(x, ones(40));
        due("the tape", x.count(4), 40);
        due("41 of 40", x.formula(0, 1, 41), -1);
        due("2 of 40", x.formula(0, 1, 2), 0);
        due("the tape is empty then", x.count(4), 0);
        due("the two", x.look(0, 1, 1), 2);
        due("no third", x.look(0, 1, 12), -1);
    }

    private static void emptyText() {
        sentence("a FORMULA is = and a SUM: no bytes, one byte");
        for (int n : new int[] {-1, -2, -20, DEEP}) {
            SheetMarker x = new SheetMarker();
            feedText(x, "=1");
            due("n " + n, x.formula(0, 0, n), -1);
            due("the tape stays", x.count(4), 20);
            due("and is good", x.formula(0, 0, 2), 0);
        }
        SheetMarker x = new SheetMarker();
        feedText(x, "=1");
        due("n 0", x.formula(0, 0, 0), 100);
        due("the tape is empty", x.count(4), 0);
        feedText(x, "=1");
        due("n 1", x.formula(0, 0, 1), 101);
        due("the tape is empty", x.count(4), 0);
        feedText(x, "=1");
        due("n 2", x.formula(0, 0, 2), 0);
    }

    private static void digits() {
        sentence("a number of one to four digits; a fifth digit can't stand there");
        for (int d = 0; d < 10; d++) {
            faulty("=" + d, 0);
            faulty("=" + d + d, 0);
            faulty("=" + d + d + d, 0);
            faulty("=" + d + d + d + d, 0);
            faulty("=" + d + d + d + d + d, 105);
            faulty("=" + d + d + d + d + d + d, 105);
            faulty("=1+" + d + d + d + d + d, 107);
            faulty("=M(" + d + d + d + d + d + ",1)", 107);
        }
        SheetMarker x = withWorlds(1);
        for (int v : new int[] {0, 1, 9, 10, 99, 100, 999, 1000, 9999}) {
            due("formula of " + v, write(x, 1, 0, "=" + v), 0);
            due("value of " + v, x.value(1, 0, 0), v);
        }
        due("noughts ahead", write(x, 1, 0, "=0009") == 0 ? x.value(1, 0, 0) : -9, 9);
        due("noughts alone", write(x, 1, 0, "=0000") == 0 ? x.value(1, 0, 0) : -9, 0);
        due("the least", write(x, 1, 0, "=-9999") == 0 ? x.value(1, 0, 0) : -9, -9999);
    }

    /** Each byte behind the head: with it the formula is whole, or more is due behind it, or it can't stand there. */
    private static void behind(String head, String whole, String more) {
        for (int b = 0; b < 256; b++) {
            String text = head + (char) b;
            int stands = whole.indexOf(b) >= 0 ? 0 : 100 + text.length();
            boolean can = whole.indexOf(b) >= 0 || more.indexOf(b) >= 0;
            due("byte " + b + " behind " + head, write(new SheetMarker(), 0, 0, text), can ? stands : 100 + head.length());
        }
    }

    private static void bytesThatCanStand() {
        sentence("1 what can't stand there (a byte behind the whole, too)");
        behind("", "", "=");
        for (String head : new String[] {"=", "=-", "=1+", "=1-", "=1*", "=1/", "=A1--", "=(1)+"}) {
            behind(head, DIGITS, OPENING + COLUMNS);
        }
        behind("=1", DIGITS, SIGNS);
        behind("=-123", DIGITS, SIGNS);
        behind("=1234", "", SIGNS);
        for (String letter : new String[] {"A", "B", "H"}) {
            behind("=" + letter, ROWS, "");
            behind("=" + letter + "1", "", SIGNS);
            behind("=" + letter + "8", "", SIGNS);
        }
        behind("=(1)", "", SIGNS);
        behind("=S(A1:H8)", "", SIGNS);
        behind("=M(1,2)", "", SIGNS);
    }

    private static void bytesWithinBrackets() {
        sentence("1 what can't stand there, within ( SUM ); S( CELL : CELL ); M( SUM , SUM )");
        behind("=(", "", DIGITS + OPENING + COLUMNS);
        behind("=(1", ")", DIGITS + SIGNS);
        behind("=(1234", ")", SIGNS);
        behind("=(A", "", ROWS);
        behind("=(A1", ")", SIGNS);
        behind("=S", "", "(");
        behind("=S(", "", COLUMNS);
        behind("=S(A", "", ROWS);
        behind("=S(A1", "", ":");
        behind("=S(A1:", "", COLUMNS);
        behind("=S(A1:H", "", ROWS);
        behind("=S(A1:H8", ")", "");
        behind("=M", "", "(");
        behind("=M(", "", DIGITS + OPENING + COLUMNS);
        behind("=M(1", "", DIGITS + SIGNS + ",");
        behind("=M(A1", "", SIGNS + ",");
        behind("=M((1)", "", SIGNS + ",");
        behind("=M(1,", "", DIGITS + OPENING + COLUMNS);
        behind("=M(1,2", ")", DIGITS + SIGNS);
        behind("=M(1,A1", ")", SIGNS);
        behind("=(M(1,2)", ")", SIGNS);
        behind("=(S(A1:H8)", ")", SIGNS);
    }

    private static void theEnd() {
        sentence("1 what can't stand there (the end, too)");
        for (String text : new String[] {"=M(S(A1:B2),-C3*(4+5))", "=(1-M(H8,-(2)/7)+S(G7:A1))"}) {
            for (int n = 0; n < text.length(); n++) {
                SheetMarker x = new SheetMarker();
                feedText(x, text);
                due("the end at " + n + " of " + text, x.formula(0, 0, n), 100 + n);
            }
            faulty(text, 0);
        }
    }

    private static void sixOpen() {
        sentence("At most 6 are open in one another; 2 a seventh, at its - or first byte");
        String[] five = {"=(((((", "=-----", "=M(M(M(M(M(", "=-(-(-", "=(-M(1,-(", "=1+(2*(3-M(4,-M(5,", "=((((((1)+"};
        for (String head : five) {
            for (char opens : OPENING.toCharArray()) {
                faulty(head + opens, 101 + head.length());
            }
        }
        String[] six = {"=((((((", "=------", "=M(M(M(M(M(M(", "=-(-(-(", "=-M(1,-(-M(2,", "=(((((-", "=-----(", "=((((((1+",
            "=((((((1*", "=(((((M(1,", "=M(1,M(1,M(1,M(1,M(1,M(1,", "=((((((1)+(", "=-----1*A1-((((((", "=------1-------"};
        for (String head : six) {
            for (char opens : OPENING.toCharArray()) {
                faulty(head + opens, 200 + head.length());
                faulty(head + opens + "*", 200 + head.length());
            }
            faulty(head + "*", 100 + head.length());
        }
        faulty("=((((((1))))))", 0);
        faulty("=(((((((1)))))))", 207);
        faulty("=------1", 0);
        faulty("=-------1", 207);
        faulty("=M(M(M(M(M(M(1,2),3),4),5),6),7)", 0);
        faulty("=M(M(M(M(M(M(M(1,2),3),4),5),6),7),8)", 213);
        faulty("=(((((S(A1:B2))))))", 0);
        faulty("=((((((S(A1:B2)))))))", 207);
        faulty("=------H8", 0);
    }

    private static void openTillTheFactorEnds() {
        sentence("a - till its FACTOR ends; the others till their )");
        faulty("=------1-------1", 0);
        faulty("=------1--------1", 215);
        faulty("=------A1*------A1", 0);
        faulty("=------A1*-------A1", 216);
        faulty("=-----(1)-(-(-(-1)))", 0);
        faulty("=-----(1)-(-(-(-(1))))", 216);
        faulty("=(-----1+-----1)", 0);
        faulty("=(-----1+------1)", 214);
        faulty("=M(-----1,-----1)", 0);
        faulty("=M(-----1,------1)", 215);
        faulty("=((((((1))))))*((((((2))))))", 0);
        faulty("=((((((1))))))*(((((((2)))))))", 221);
        faulty("=S(A1:H8)+((((((1))))))", 0);
        faulty("=M(1,2)+((((((1))))))", 0);
        faulty("=(((((1+(2)+-3+S(A1:B2)+M(4,5))))))", 0);
        faulty("=-((((((1))))))", 207);
        faulty("=1-((((((1))))))", 0);
        faulty("=-----S(A1:B2)-----M(-1,2)", 0);
        faulty("=-----S(A1:B2)------M(-1,2)", 222);
    }

    private static void firstFault() {
        sentence("FAULTS, the first from the left");
        faulty("=((((((*(", 107);
        faulty("=(((((((*", 207);
        faulty("=12345(((((((", 105);
        faulty("=((((((12345", 111);
        faulty("=((((((1234-(", 212);
        faulty("=A9+(((((((1", 102);
        faulty("=(((((((1+A9", 207);
        faulty("1+(((((((1", 100);
        faulty("==12345", 101);
        faulty("=1)+12345", 102);
        faulty("=-------", 207);
        faulty("=------", 107);
        faulty("=(((((((", 207);
        faulty("=((((((", 107);
    }

    private static void faultLeavesTheCell() {
        sentence("a FAULT: the CELL stays, the tape is empty");
        SheetMarker x = withWorlds(1);
        for (String text : new String[] {"", "=", "=1+", "=12345", "=(((((((1", "=1)"}) {
            due("in an empty cell", write(x, 1, 0, text) > 0, true);
            due("it stays empty", x.look(1, 0, 0), 0);
            due("the tape is empty", x.count(4), 0);
            x.number(1, 1, -4);
            due("over a number", write(x, 1, 1, text) > 0, true);
            due("the number stays", x.look(1, 1, 1), -4);
            due("a formula", write(x, 1, 2, "=A1+B1"), 0);
            due("over a formula", write(x, 1, 2, text) > 0, true);
            due("the formula stays", x.look(1, 2, 1), 6);
            due("its last byte", x.look(1, 2, 15), '1');
            due("it needs A1 still", x.look(1, 0, 2), 1);
            due("its value", x.value(1, 2, 0), -4);
        }
    }

    // ---- Lessons: inputs, worlds, gifts, wanted cells

    private static void inputs() {
        sentence("INPUTS (8 at most); false: no such one, it is, it is WANTED, 8 are");
        SheetMarker x = withWorlds(1);
        x.wants(40, 1);
        for (int i = 0; i < 8; i++) {
            due("wanted", x.input(40), false);
            due("input " + i, x.input(9 * i), true);
            due("it is", x.input(9 * i), false);
            due("so many", x.count(0), i + 1);
        }
        due("a ninth", x.input(1), false);
        due("one that is, with 8", x.input(63), false);
        due("8 are", x.count(0), 8);
        due("the eighth is one", x.give(0, 63, 5), true);
        due("the ninth is none", x.give(0, 1, 5), false);
        due("nothing is given to it", x.value(0, 1, 0), 0);
        due("it can be wanted", x.wants(1, 1), true);
        due("the eighth can't", x.wants(63, 1), false);
    }

    private static void worlds() {
        sentence("WORLDS 0 to 5; NONE: 6 are there");
        SheetMarker x = new SheetMarker();
        for (int w = 0; w < 6; w++) {
            due("no value in it", x.value(0, 0, w), -1);
            due("no error in it", x.error(0, 0, w), -1);
            due("no right figure in it", x.right(0, 0, w), -1);
            due("no right error in it", x.rightError(0, 0, w), -1);
            due("world", x.world(), w);
            due("so many", x.count(2), w + 1);
            due("value in it", x.value(0, 0, w), 0);
            due("error in it", x.error(0, 0, w), 0);
            due("right figure in it", x.right(0, 0, w), 0);
            due("right error in it", x.rightError(0, 0, w), 0);
        }
        for (int i = 0; i < 3; i++) {
            due("a seventh", x.world(), -1);
            due("6 stay", x.count(2), 6);
        }
        for (int w : new int[] {DEEP, -1, 6, 7, FAR}) {
            due("value in " + w, x.value(0, 0, w), -1);
            due("error in " + w, x.error(0, 0, w), -1);
            due("right figure in " + w, x.right(0, 0, w), -1);
            due("right error in " + w, x.rightError(0, 0, w), -1);
        }
    }

    private static void gifts() {
        sentence("WORLDS give a number (-9999 to 9999; 0 at first) to each INPUT");
        SheetMarker x = withWorlds(5);
        x.input(0);
        x.input(63);
        due("no world yet", x.give(5, 63, 1), false);
        x.world();
        for (int w = 0; w < 6; w++) {
            due("0 at first", x.value(3, 63, w), 0);
            for (int v : new int[] {-9999, -1, 0, 9999, w + 1}) {
                due("give " + v, x.give(w, 63, v), true);
                due("value " + v, x.value(w, 63, w), v);
            }
            for (int v : NO_NUMBERS) {
                due("give " + v, x.give(w, 63, v), false);
            }
            due("the last one stays", x.value(0, 63, w), w + 1);
            due("the other input's", x.value(0, 0, w), 0);
        }
        for (int w : new int[] {DEEP, -1, 6, FAR}) {
            due("world " + w, x.give(w, 63, 1), false);
        }
        due("no input", x.give(0, 62, 1), false);
        due("no input", x.give(5, 1, 1), false);
        for (int w = 0; w < 6; w++) {
            due("each world its own", x.value(0, 63, w), w + 1);
        }
    }

    private static void wanted() {
        sentence("WANTED are CELLS that are no INPUTS, 16 at most; anew at any time");
        SheetMarker x = withWorlds(1);
        x.input(40);
        for (int i = 0; i < 16; i++) {
            due("an input", x.wants(40, 5), false);
            due("wants " + i, x.wants(63 - i, 5), true);
            due("anew", x.wants(63 - i, 6), true);
            due("so many", x.count(1), i + 1);
        }
        due("a seventeenth", x.wants(0, 5), false);
        due("no points of it", x.count(100), 0);
        due("no kind of it", x.kind(1, 0), -1);
        due("16 stay", x.count(1), 16);
        due("the first anew, with 16", x.wants(63, 100), true);
        due("the last anew, with 16", x.wants(48, 1), true);
        due("16 stay", x.count(1), 16);
        due("all points", x.count(3), 14 * 6 + 101);
        due("the seventeenth can be an input", x.input(0), true);
        due("the sixteenth can't", x.input(48), false);
    }

    private static void pointsOneToHundred() {
        sentence("each with POINTS (1 to 100)");
        SheetMarker x = new SheetMarker();
        for (int points = 1; points <= 100; points++) {
            due("points " + points, x.wants(63, points), true);
            due("they are there", x.count(163), points);
        }
        for (int points : new int[] {DEEP, -100, -1, 0, 101, FAR}) {
            due("anew, points " + points, x.wants(63, points), false);
            due("the old ones stay", x.count(163), 100);
            due("points " + points, x.wants(0, points), false);
            due("it is not wanted", x.count(1), 1);
            due("it has no points", x.count(100), 0);
        }
    }

    private static void cleared() {
        sentence("CELL c is EMPTY: true; false: it is");
        SheetMarker x = withWorlds(1);
        x.input(9);
        x.wants(10, 1);
        for (int c = 9; c < 12; c++) {
            due("an empty one", x.clear(5, c), false);
            due("a number", x.number(5, c, 0), true);
            due("cleared", x.clear(5, c), true);
            due("it is", x.clear(5, c), false);
            due("a formula", write(x, 5, c, "=0"), 0);
            due("of another sheet", x.clear(4, c), false);
            due("cleared", x.clear(5, c), true);
            due("it is", x.clear(5, c), false);
            due("no bytes of it", x.look(5, c, 10), -1);
            due("no length of it", x.look(5, c, 1), 0);
            due("its value", x.value(5, c, 0), 0);
            due("it needs nothing", x.look(5, 0, 2) + x.look(5, 63, 2), 0);
        }
        due("wanted still", x.count(1), 1);
        due("input still", x.count(0), 1);
    }

    // ---- Reckoning: values and errors

    /** A sheet of great and small figures: 3's row 1, and its rows 4 and 5 to be summed. */
    private static SheetMarker figures() {
        SheetMarker x = withWorlds(1);
        writes(x, 3, "A1", "=1000*1000*1000*1000");
        writes(x, 3, "B1", "=-A1");
        writes(x, 3, "C1", "=1000*1000");
        writes(x, 3, "D1", "=4096*4096*256");
        writes(x, 3, "E1", "=A1/3");
        writes(x, 3, "F1", "=A1-1");
        writes(x, 3, "G1", "=1/0");
        writes(x, 3, "H1", "=A1+1");
        writes(x, 3, "A2", "=A2");
        return x;
    }

    private static void reckons(SheetMarker x, String text, long value, int error) {
        due("formula " + text, write(x, 3, "H8", text), 0);
        due("value of " + text, x.value(3, 63, 0), value);
        due("error of " + text, x.error(3, 63, 0), error);
        due("right figure of " + text, x.right(3, 63, 0), value);
        due("right error of " + text, x.rightError(3, 63, 0), error);
    }

    private static void inputWhateverIsInIt() {
        sentence("of an INPUT what the WORLD gives, whatever is in it; else of an EMPTY one 0, of a NUMBER that");
        SheetMarker x = withWorlds(1);
        x.input(0);
        x.give(0, 0, -9999);
        due("over an empty cell", x.value(1, 0, 0), -9999);
        x.number(1, 0, 9999);
        due("over a number", x.value(1, 0, 0), -9999);
        writes(x, 1, "A1", "=1/0");
        due("over a formula", x.value(1, 0, 0), -9999);
        due("over its error", x.error(1, 0, 0), 0);
        due("with right figures, too", x.right(1, 0, 0), -9999);
        due("with right figures, too", x.rightError(1, 0, 0), 0);
        due("empty", x.value(1, 1, 0), 0);
        x.number(1, 1, -9999);
        due("number", x.value(1, 1, 0), -9999);
        writes(x, 1, "C1", "=A1+B1+D1");
        due("formula", x.value(1, 2, 0), -19998);
        x.number(1, 1, -1);
        due("a value can be -1", x.value(1, 1, 0), -1);
        due("a right figure can be -1", x.right(1, 1, 0), -1);
        due("it has no error", x.error(1, 1, 0), 0);
        due("a number can be -1", x.look(1, 1, 1), -1);
    }

    private static void roundedDown() {
        sentence("a / b is rounded down (-7 / 2 is -4)");
        SheetMarker x = figures();
        reckons(x, "=7/2", 3, 0);
        reckons(x, "=-7/2", -4, 0);
        reckons(x, "=7/-2", -4, 0);
        reckons(x, "=-7/-2", 3, 0);
        reckons(x, "=-(7/2)", -3, 0);
        reckons(x, "=6/-2", -3, 0);
        reckons(x, "=-6/2", -3, 0);
        reckons(x, "=-6/-2", 3, 0);
        reckons(x, "=1/9999", 0, 0);
        reckons(x, "=-1/9999", -1, 0);
        reckons(x, "=9999/9999", 1, 0);
        reckons(x, "=9998/9999", 0, 0);
        reckons(x, "=-9998/9999", -1, 0);
        reckons(x, "=-9999/9999", -1, 0);
        reckons(x, "=0/-9999", 0, 0);
        reckons(x, "=F1/A1", 0, 0);
        reckons(x, "=-F1/A1", -1, 0);
        reckons(x, "=B1/9999", -100010002, 0);
        reckons(x, "=A1/-1", -MOST, 0);
        reckons(x, "=B1/-1", MOST, 0);
        reckons(x, "=A1/1", MOST, 0);
    }

    private static void byZero() {
        sentence("BY 0 (2) if something is divided by 0");
        SheetMarker x = figures();
        reckons(x, "=1/0", 0, 2);
        reckons(x, "=0/0", 0, 2);
        reckons(x, "=A1/0", 0, 2);
        reckons(x, "=B1/(1-1)", 0, 2);
        reckons(x, "=1/-0", 0, 2);
        reckons(x, "=1/H7", 0, 2);
        reckons(x, "=1/S(H6:H7)", 0, 2);
        reckons(x, "=1/M(0,-1)", 0, 2);
        reckons(x, "=1/(1/2)", 0, 2);
        reckons(x, "=0*(1/0)", 0, 2);
        reckons(x, "=M(1,1/0)", 0, 2);
        reckons(x, "=1/1", 1, 0);
        reckons(x, "=1/-1", -1, 0);
        reckons(x, "=0/1", 0, 0);
        reckons(x, "=0/-1", 0, 0);
    }

    private static void aboveTheGreatest() {
        sentence("GREAT (3) if a number that comes out somewhere is above 10^12");
        SheetMarker x = figures();
        reckons(x, "=A1", MOST, 0);
        reckons(x, "=A1+0", MOST, 0);
        reckons(x, "=A1+1", 0, 3);
        reckons(x, "=1+A1", 0, 3);
        reckons(x, "=F1+1", MOST, 0);
        reckons(x, "=F1+2", 0, 3);
        reckons(x, "=F1--1", MOST, 0);
        reckons(x, "=F1--2", 0, 3);
        reckons(x, "=-B1", MOST, 0);
        reckons(x, "=C1*C1", MOST, 0);
        reckons(x, "=C1*(C1+1)", 0, 3);
        reckons(x, "=(C1+1)*(C1-1)", MOST - 1, 0);
        reckons(x, "=-C1*-C1", MOST, 0);
        reckons(x, "=-C1*-(C1+1)", 0, 3);
        reckons(x, "=E1*3", MOST - 1, 0);
        reckons(x, "=(E1+1)*3", 0, 3);
        reckons(x, "=3*(E1+1)", 0, 3);
        reckons(x, "=A1*1", MOST, 0);
        reckons(x, "=1*A1", MOST, 0);
        reckons(x, "=B1*-1", MOST, 0);
        reckons(x, "=A1*2", 0, 3);
        reckons(x, "=2*A1", 0, 3);
        reckons(x, "=M(A1,B1)", MOST, 0);
        reckons(x, "=S(A1:A1)", MOST, 0);
        reckons(x, "=H1", 0, 3);
    }

    private static void belowTheGreatest() {
        sentence("GREAT (3) if a number that comes out somewhere is below -10^12");
        SheetMarker x = figures();
        reckons(x, "=B1", -MOST, 0);
        reckons(x, "=B1-0", -MOST, 0);
        reckons(x, "=B1-1", 0, 3);
        reckons(x, "=-1+B1", 0, 3);
        reckons(x, "=-F1-1", -MOST, 0);
        reckons(x, "=-F1-2", 0, 3);
        reckons(x, "=-A1", -MOST, 0);
        reckons(x, "=-C1*C1", -MOST, 0);
        reckons(x, "=C1*-C1", -MOST, 0);
        reckons(x, "=-C1*(C1+1)", 0, 3);
        reckons(x, "=C1*-(C1+1)", 0, 3);
        reckons(x, "=-E1*3", 1 - MOST, 0);
        reckons(x, "=-3*(E1+1)", 0, 3);
        reckons(x, "=A1*-1", -MOST, 0);
        reckons(x, "=-1*A1", -MOST, 0);
        reckons(x, "=A1*-2", 0, 3);
        reckons(x, "=-2*A1", 0, 3);
        reckons(x, "=M(B1,B1)", -MOST, 0);
        reckons(x, "=S(B1:B1)", -MOST, 0);
    }

    private static void greatOnTheWay() {
        sentence("a number that comes out somewhere, though the whole is small");
        SheetMarker x = figures();
        reckons(x, "=A1+A1-A1", 0, 3);
        reckons(x, "=A1-A1+A1", MOST, 0);
        reckons(x, "=(A1+1)*0", 0, 3);
        reckons(x, "=0*(A1+1)", 0, 3);
        reckons(x, "=A1*2/2", 0, 3);
        reckons(x, "=A1/2*2", MOST, 0);
        reckons(x, "=M(0,B1-1)", 0, 3);
        reckons(x, "=M(A1+1,0)-A1", 0, 3);
        reckons(x, "=-(A1+1)+1", 0, 3);
        reckons(x, "=0*H1", 0, 3);
        reckons(x, "=A1*0", 0, 0);
        reckons(x, "=0*B1", 0, 0);
    }

    private static void greatWrapsNot() {
        sentence("GREAT where a product would wrap around in 64 bits");
        SheetMarker x = figures();
        reckons(x, "=D1", 1L << 32, 0);
        reckons(x, "=D1*D1", 0, 3);
        reckons(x, "=D1*D1*0", 0, 3);
        reckons(x, "=(D1+1)*(D1-1)", 0, 3);
        reckons(x, "=(D1*2)*(D1/2)", 0, 3);
        reckons(x, "=D1*64*(D1*8)", 0, 3);
        reckons(x, "=A1*A1", 0, 3);
        reckons(x, "=A1*B1", 0, 3);
        reckons(x, "=B1*B1", 0, 3);
        reckons(x, "=-D1*D1", 0, 3);
        reckons(x, "=A1+A1", 0, 3);
        reckons(x, "=B1-A1", 0, 3);
        reckons(x, "=B1+B1", 0, 3);
    }

    private static void rectangles() {
        sentence("S( CELL : CELL ), the sum of all CELLS of the rectangle between these two");
        SheetMarker x = withWorlds(1);
        for (int c = 0; c < 63; c++) {
            x.number(3, c, 1 + c % 8 + 10 * (c / 8));
        }
        reckons(x, "=S(A1:A1)", 1, 0);
        reckons(x, "=S(H7:H7)", 68, 0);
        reckons(x, "=S(A1:H1)", 36, 0);
        reckons(x, "=S(H1:A1)", 36, 0);
        reckons(x, "=S(A1:A8)", 288, 0);
        reckons(x, "=S(A8:A1)", 288, 0);
        reckons(x, "=S(H1:H7)", 266, 0);
        reckons(x, "=S(A8:G8)", 518, 0);
        reckons(x, "=S(A1:H7)", 7 * 36 + 8 * 210, 0);
        reckons(x, "=S(H7:A1)", 7 * 36 + 8 * 210, 0);
        reckons(x, "=S(A7:H1)", 7 * 36 + 8 * 210, 0);
        reckons(x, "=S(H1:A7)", 7 * 36 + 8 * 210, 0);
        reckons(x, "=S(A1:G8)", 8 * 28 + 7 * 280, 0);
        reckons(x, "=S(G8:A1)", 8 * 28 + 7 * 280, 0);
        reckons(x, "=S(B2:C3)", 12 + 13 + 22 + 23, 0);
        reckons(x, "=S(C2:B3)", 12 + 13 + 22 + 23, 0);
        x.number(3, 63, 78);
        due("all cells", write(x, 2, "A1", "=0") + write(x, 3, "A1", "=S(B1:H8)"), 0);
        due("all but a column", x.value(3, 0, 0), 8 * 35 + 7 * 280);
    }

    private static void rectangleAddsAsItComes() {
        sentence("S( ): CELLS by numbers, each added as it comes");
        SheetMarker x = figures();
        writes(x, 3, "A4", "=A1");
        x.number(3, at("B4"), 1);
        x.number(3, at("C4"), -1);
        reckons(x, "=S(A4:C4)", 0, 3);
        x.number(3, at("B4"), -1);
        x.number(3, at("C4"), 1);
        reckons(x, "=S(A4:C4)", MOST, 0);
        reckons(x, "=S(C4:A4)", MOST, 0);
        writes(x, 3, "A4", "=B1");
        reckons(x, "=S(A4:C4)", 0, 3);
        writes(x, 3, "A4", "=A1");
        x.number(3, at("B4"), -5);
        x.number(3, at("A5"), 5);
        reckons(x, "=S(A4:B5)", MOST, 0);
        reckons(x, "=S(B5:A4)", MOST, 0);
        x.number(3, at("B4"), 5);
        x.number(3, at("A5"), -5);
        reckons(x, "=S(A4:B5)", 0, 3);
        writes(x, 3, "A5", "=1/0");
        reckons(x, "=S(A4:B5)", 0, 3);
        x.number(3, at("B4"), 0);
        reckons(x, "=S(A4:B5)", 0, 2);
    }

    private static void metFirst() {
        sentence("The one that is met first, from the left to the right, what is within first");
        SheetMarker x = figures();
        reckons(x, "=G1+H1", 0, 2);
        reckons(x, "=H1+G1", 0, 3);
        reckons(x, "=H1/0", 0, 3);
        reckons(x, "=(A1+1)/0", 0, 3);
        reckons(x, "=A1/0+H1", 0, 2);
        reckons(x, "=A1*2/0", 0, 3);
        reckons(x, "=A1*(2/0)", 0, 2);
        reckons(x, "=A1+A1/0", 0, 2);
        reckons(x, "=A1+A1+G1", 0, 3);
        reckons(x, "=A1+A1*G1", 0, 2);
        reckons(x, "=M(G1,H1)", 0, 2);
        reckons(x, "=M(H1,G1)", 0, 3);
        reckons(x, "=-G1*H1", 0, 2);
        reckons(x, "=S(G1:H1)", 0, 2);
        reckons(x, "=S(H1:G1)", 0, 2);
        reckons(x, "=1/(H1*0)", 0, 3);
        reckons(x, "=G1+A2", 0, 1);
        reckons(x, "=A2*0", 0, 1);
        reckons(x, "=H1/0-S(A1:A2)", 0, 1);
    }

    private static void circleOfOne() {
        sentence("CIRCLE (1) if by NEEDING, one or several steps, it comes to a CELL that comes back to itself");
        SheetMarker x = withWorlds(6);
        writes(x, 1, "A1", "=A1");
        writes(x, 1, "B1", "=A1");
        writes(x, 1, "C1", "=0*B1");
        writes(x, 1, "D1", "=D2");
        writes(x, 1, "E1", "=S(D1:E1)");
        writes(x, 1, "F1", "=S(F2:H8)");
        writes(x, 1, "H8", "=M(1,G8)");
        writes(x, 1, "G8", "=F1");
        for (int w = 0; w < 6; w += 5) {
            due("itself", x.error(1, at("A1"), w), 1);
            due("one step off", x.error(1, at("B1"), w), 1);
            due("two steps off", x.error(1, at("C1"), w), 1);
            due("value with it", x.value(1, at("C1"), w), 0);
            due("no circle", x.error(1, at("D1"), w), 0);
            due("in its own rectangle", x.error(1, at("E1"), w), 1);
            due("three in a circle", x.error(1, at("F1"), w), 1);
            due("three in a circle", x.error(1, at("G8"), w), 1);
            due("three in a circle", x.error(1, at("H8"), w), 1);
            due("in another sheet", x.error(2, at("A1"), w), 0);
        }
        x.clear(1, at("G8"));
        due("no circle any more", x.error(1, at("F1"), 5), 0);
        due("its value", x.value(1, at("F1"), 5), 1);
    }

    private static void circleOfAll() {
        sentence("CIRCLE by several steps: a chain and a circle of all 64 CELLS");
        SheetMarker x = withWorlds(1);
        for (int c = 0; c < 63; c++) {
            due("up", write(x, 1, c, "=" + name(c + 1) + "+1"), 0);
        }
        due("a chain of 64, to a higher one", x.value(1, 0, 0), 63);
        due("all but itself come to the last", x.look(1, 63, 2), 63);
        due("none comes to the first", x.look(1, 0, 2), 0);
        due("its end", write(x, 1, 63, "=" + name(0)), 0);
        for (int c = 0; c < 64; c += 9) {
            due("a circle of 64", x.error(1, c, 0), 1);
            due("all come to it", x.look(1, c, 2), 64);
        }
        due("its end", write(x, 1, 63, "=" + name(63)), 0);
        due("a chain into a circle of one", x.error(1, 0, 0), 1);
        due("all come to the last", x.look(1, 63, 2), 64);
        due("none comes to the first", x.look(1, 0, 2), 0);
        x.number(1, 63, 9);
        due("a number ends it", x.value(1, 0, 0), 72);
        due("a formula ends it", write(x, 1, 63, "=9"), 0);
        due("a chain of 64 formulas", x.value(1, 0, 0), 72);
        due("with right figures", x.right(1, 0, 0), 72);
        due("with right figures of a wanted one", x.wants(62, 1) ? x.right(1, 62, 0) : -9, 10);
        due("the task's figure on the way", x.number(0, 62, 500) ? x.right(1, 0, 0) : -9, 562);
        due("no error on the way", x.rightError(1, 0, 0), 0);
    }

    private static void circlesAndInputs() {
        sentence("FORMULAS that are no INPUTS' NEED");
        SheetMarker x = withWorlds(1);
        writes(x, 1, "A1", "=B1");
        writes(x, 1, "B1", "=A1+B1");
        writes(x, 1, "C1", "=A1+7");
        due("a circle", x.error(1, 2, 0), 1);
        due("two come to A1 and it to itself", x.look(1, 0, 2), 3);
        x.input(1);
        due("none through an input", x.error(1, 2, 0), 0);
        due("its value", x.value(1, 2, 0), 7);
        due("one comes to A1", x.look(1, 0, 2), 1);
        due("two come to B1", x.look(1, 1, 2), 2);
        x.give(0, 1, 5);
        due("what is given", x.value(1, 2, 0), 12);
    }

    private static void rightFigures() {
        sentence("each other WANTED CELL that is named has THE TASK's VALUE (or ERROR), whatever the SHEET has there");
        SheetMarker x = withWorlds(1);
        x.wants(0, 1);
        x.wants(1, 1);
        x.wants(2, 1);
        writes(x, 0, "A1", "=41");
        writes(x, 0, "B1", "=1/0");
        writes(x, 1, "C1", "=A1+E1+1");
        writes(x, 1, "D1", "=B1");
        due("the sheet has nothing there", x.right(1, 2, 0), 42);
        due("the task's error", x.rightError(1, 3, 0), 2);
        x.number(1, 0, 5);
        x.number(1, 1, 5);
        due("the sheet has a number there", x.right(1, 2, 0), 42);
        due("the task's error", x.rightError(1, 3, 0), 2);
        writes(x, 1, "A1", "=1/0");
        writes(x, 1, "B1", "=7");
        due("the sheet has a formula there", x.right(1, 2, 0), 42);
        due("the task's error", x.rightError(1, 3, 0), 2);
        due("itself as it is", x.right(1, 1, 0), 7);
        due("itself as it is", x.rightError(1, 0, 0), 2);
        x.number(1, 4, 9);
        due("a cell that is not wanted", x.right(1, 2, 0), 51);
        writes(x, 1, "E1", "=A1*2");
        due("named on the way", x.right(1, 2, 0), 41 + 82 + 1);
        due("asked for a cell that is not wanted", x.right(1, 4, 0), 82);
        due("the sheet's own", x.error(1, 2, 0), 2);
        writes(x, 1, "E1", "=S(A1:A1)");
        due("in a rectangle", x.right(1, 2, 0), 41 + 41 + 1);
        x.clear(0, 0);
        due("the task has nothing there", x.right(1, 2, 0), 1);
        due("the task's own figures", x.rightError(0, 1, 0), 2);
    }

    private static void rightFiguresOfAll() {
        sentence("WITH RIGHT FIGURES: 16 WANTED, 6 WORLDS, an INPUT's figure");
        SheetMarker x = withWorlds(6);
        x.input(63);
        for (int i = 0; i < 16; i++) {
            x.wants(i, 1);
            x.number(0, i, 100 + i);
            x.number(1, i, 1);
        }
        writes(x, 1, "H8", "=1/0");
        writes(x, 1, "A3", "=S(A1:H2)+H8");
        writes(x, 1, "H2", "=S(A1:G2)+H8");
        for (int w = 0; w < 6; w++) {
            x.give(w, 63, 1000 * w);
            due("all wanted", x.right(1, 16, w), 1720 + 1000 * w);
            due("the sheet's", x.value(1, 16, w), 15 + 14 + 2000 * w);
            due("all wanted but itself", x.right(1, 15, w), 721 + 777 + 1000 * w);
            due("an input", x.right(1, 63, w), 1000 * w);
            due("an input has no error", x.rightError(1, 63, w), 0);
        }
    }

    private static void rightCircles() {
        sentence("CIRCLE then: by NEEDING that does not go on from such CELLS");
        SheetMarker x = withWorlds(1);
        x.wants(0, 1);
        x.wants(1, 1);
        x.number(0, 1, 8);
        writes(x, 1, "A1", "=B1");
        writes(x, 1, "B1", "=A1");
        due("a circle of two wanted ones", x.error(1, 0, 0), 1);
        due("not so", x.rightError(1, 0, 0), 0);
        due("the task's", x.right(1, 0, 0), 8);
        due("the task's empty one", x.right(1, 1, 0), 0);
        writes(x, 1, "B1", "=B1");
        due("another's circle", x.rightError(1, 0, 0), 0);
        due("its own circle", x.rightError(1, 1, 0), 1);
        writes(x, 1, "A1", "=C1");
        writes(x, 1, "C1", "=A1");
        due("through one that is not wanted", x.rightError(1, 0, 0), 1);
        due("that one's", x.rightError(1, 2, 0), 0);
        writes(x, 1, "A1", "=1/0+C1");
        writes(x, 1, "C1", "=C1");
        due("ahead of what is met", x.rightError(1, 0, 0), 1);
        writes(x, 0, "B1", "=B1");
        writes(x, 1, "A1", "=1/0+B1");
        due("the task's circle is an error that is met", x.rightError(1, 0, 0), 2);
        writes(x, 1, "A1", "=B1+1/0");
        due("the task's circle is an error that is met", x.rightError(1, 0, 0), 1);
    }

    // ---- Marks: kinds, changes, points

    /** B1 is wanted, 10 points; A1 is given 1 to 6 in the six worlds, and is B1 in the task. */
    private static SheetMarker lesson() {
        SheetMarker x = withWorlds(6);
        x.input(0);
        for (int w = 0; w < 6; w++) {
            x.give(w, 0, w + 1);
        }
        x.wants(1, 10);
        writes(x, 0, "B1", "=A1");
        return x;
    }

    private static void rightInAllWorlds() {
        sentence("1 RIGHT: a FORMULA whose VALUES are ALIKE to THE TASK's in all WORLDS");
        SheetMarker x = lesson();
        x.number(1, at("A2"), 50);
        due("empty", x.kind(1, 1), 0);
        writes(x, 1, "B1", "=A1+A1/7");
        due("in all", x.kind(1, 1), 1);
        writes(x, 1, "B1", "=A1+A1/6*2+A1/6");
        due("in all but the last", x.kind(1, 1), 5);
        writes(x, 1, "B1", "=A1+(A1-1)*0");
        due("in all", x.kind(1, 1), 1);
        writes(x, 1, "B1", "=M(A1,6-A1*3)+M(0,4-A1*3)");
        due("in all but the first", x.kind(1, 1), 5);
        writes(x, 1, "B1", "=M(A1,4-A1*3)+M(0,3-A1*3)");
        due("in all, the first just so", x.kind(1, 1), 1);
        writes(x, 0, "B1", "=A1/(A1-6)");
        writes(x, 1, "B1", "=A1/(A1-6)+0");
        due("an error in the last", x.kind(1, 1), 1);
        writes(x, 1, "B1", "=A1/(A1-6)+(A1/6)*0");
        due("an error in the last", x.kind(1, 1), 1);
    }

    private static void typedInOneWorld() {
        sentence("2 TYPED: a NUMBER that is THE TASK's VALUE in one WORLD at least");
        SheetMarker x = lesson();
        for (int v = -1; v < 9; v++) {
            x.number(1, 1, v);
            due("number " + v, x.kind(1, 1), v >= 1 && v <= 6 ? 2 : 5);
            due("points of " + v, x.points(1, 1), v >= 1 && v <= 6 ? 2 : 0);
        }
        writes(x, 0, "B1", "=6/(A1-3)");
        x.number(1, 1, 0);
        due("0 where the task has an error", x.kind(1, 1), 5);
        x.number(1, 1, 2);
        due("the last world's", x.kind(1, 1), 2);
        x.number(1, 1, -3);
        due("the first world's", x.kind(1, 1), 2);
        x.number(1, 1, 1);
        due("no world's", x.kind(1, 1), 5);
        x.clear(0, 1);
        x.number(1, 1, 0);
        due("0 where the task is empty", x.kind(1, 1), 2);
        x.clear(1, 1);
        due("empty where the task is empty", x.kind(1, 1), 0);
        writes(x, 1, "B1", "=0");
        due("a formula where the task is empty", x.kind(1, 1), 1);
        x.number(0, 1, -9999);
        x.number(1, 1, -9999);
        due("the least number", x.kind(1, 1), 2);
    }

    private static void carriedInAllWorlds() {
        sentence("3 CARRIED: a FORMULA that WITH RIGHT FIGURES is ALIKE to THE TASK in all WORLDS");
        SheetMarker x = lesson();
        x.wants(2, 7);
        writes(x, 0, "C1", "=B1*5");
        x.number(1, at("A2"), 50);
        x.number(1, at("B2"), 50);
        x.number(1, 1, 77);
        writes(x, 1, "C1", "=B1+B1*4");
        due("in all", x.kind(1, 2), 3);
        due("all points", x.points(1, 2), 7);
        due("it is no fault", x.fault(1, 1), -1);
        writes(x, 1, "C1", "=B1*5+B1/6*2+B1/6");
        due("in all but the last", x.kind(1, 2), 5);
        due("no points", x.points(1, 2), 0);
        writes(x, 1, "C1", "=B1*5+B1/7*2+B1/7");
        due("in all", x.kind(1, 2), 3);
        writes(x, 1, "C1", "=B1*4");
        due("none, and a slip from it", x.kind(1, 2), 4);
        writes(x, 1, "B1", "=A1");
        writes(x, 1, "C1", "=B1*5");
        due("right comes first", x.kind(1, 2), 1);
    }

    private static void withoutWorlds() {
        sentence("(Without WORLDS: every FORMULA is RIGHT, no NUMBER TYPED.)");
        SheetMarker x = new SheetMarker();
        for (int c = 0; c < 5; c++) {
            x.wants(c, 100);
        }
        writes(x, 0, "A1", "=1");
        x.number(0, 2, 3);
        writes(x, 1, "A1", "=2");
        writes(x, 1, "B1", "=B1/0");
        x.number(1, 2, 3);
        x.number(1, 3, 0);
        due("a formula", x.kind(1, 0), 1);
        due("a formula in a circle", x.kind(1, 1), 1);
        due("a number", x.kind(1, 2), 5);
        due("a number", x.kind(1, 3), 5);
        due("an empty cell", x.kind(1, 4), 0);
        due("points", x.points(1, 1), 100);
        due("no points", x.points(1, 2), 0);
        due("total", x.points(1, -1), 200);
        due("no slip", x.slip(1, 0, 0), -1);
        due("no slip", x.slip(1, 0, 1), -1);
        due("the first fault", x.fault(1, 0), 2);
        due("the last fault", x.fault(1, 2), 4);
        due("no value", x.value(1, 0, 0), -1);
        due("no error", x.error(1, 1, 0), -1);
        due("no right figure", x.right(1, 0, 0), -1);
        due("no right error", x.rightError(1, 1, 0), -1);
        x.world();
        due("with one: a slip", x.kind(1, 0), 4);
        due("with one: an error", x.kind(1, 1), 5);
        due("with one: typed", x.kind(1, 2), 2);
        due("with one: typed", x.kind(1, 3), 2);
        due("with one: empty", x.kind(1, 4), 0);
    }

    private static void oneError() {
        sentence("TWO are ALIKE if both have one VALUE, or both have one ERROR");
        String[] errors = {"=0", "=B1", "=1/0", "=9999*9999*9999*9999"};
        String[] others = {"=1-1", "=0+B1*7+1/0", "=9/(8-8)", "=-9999*9999*9999*9999*5"};
        for (int i = 0; i < 4; i++) {
            for (int j = 0; j < 4; j++) {
                SheetMarker x = withWorlds(1);
                x.wants(1, 10);
                writes(x, 0, "B1", errors[i]);
                writes(x, 1, "B1", others[j]);
                due("error " + i, x.error(0, 1, 0), i);
                due("error " + j, x.error(1, 1, 0), j);
                due(others[j] + " for " + errors[i], x.kind(1, 1) == 1, i == j);
            }
        }
    }

    private static boolean isBeside(int c, int d) {
        return Math.abs(c % 8 - d % 8) + Math.abs(c / 8 - d / 8) == 1;
    }

    private static void changesAtTheEdges() {
        sentence("of a CELL: the one above, below, to the left, to the right, if there is such");
        for (int named = 0; named < 64; named++) {
            int wanted = named == 27 ? 28 : 27;
            SheetMarker x = withWorlds(1);
            x.wants(wanted, 1);
            for (int c = 0; c < 64; c++) {
                x.number(0, c, 1000 + 13 * c);
                x.number(1, c, 1000 + 13 * c);
            }
            write(x, 1, wanted, "=" + name(named));
            for (int meant = 0; meant < 64; meant++) {
                write(x, 0, wanted, "=" + name(meant));
                boolean slip = isBeside(named, meant);
                String both = name(named) + " for " + name(meant);
                due("kind of " + both, x.kind(1, wanted), named == meant ? 1 : slip ? 4 : 5);
                due("slip of " + both, x.slip(1, wanted, 1), slip ? meant : -1);
            }
            write(x, 0, wanted, "=0");
            due("nothing beyond the edge beside " + name(named), x.kind(1, wanted), 5);
        }
    }

    /** A task's and a pupil's formula in C3 over A1 = 6 and 10, B1 = 3 and 4; the slip that is due. */
    private static void slips(String task, String pupil, int place, int made) {
        SheetMarker x = withWorlds(2);
        x.input(0);
        x.input(1);
        x.give(0, 0, 6);
        x.give(1, 0, 10);
        x.give(0, 1, 3);
        x.give(1, 1, 4);
        x.wants(at("C3"), 8);
        writes(x, 0, "C3", task);
        writes(x, 5, "C3", pupil);
        String both = pupil + " for " + task;
        due("kind of " + both, x.kind(5, at("C3")), place < 0 ? 5 : 4);
        due("place of " + both, x.slip(5, at("C3"), 0), place);
        due("what is made of " + both, x.slip(5, at("C3"), 1), made);
    }

    private static void changesOfNumbers() {
        sentence("of a number: 1 more, 1 less (that can be -1)");
        slips("=-1", "=0", 1, -1);
        slips("=A1-1", "=A1+0", 4, -1);
        slips("=A1-1", "=A1+0000", 4, -1);
        slips("=1", "=0", 1, 1);
        slips("=9999+1", "=9999", 1, 10000);
        slips("=A1*9999+A1", "=A1*9999", 4, 10000);
        slips("=9998", "=9999", 1, 9998);
        slips("=10", "=0009", 1, 10);
        slips("=8", "=0009", 1, 8);
        slips("=7", "=9", -1, -1);
        slips("=11", "=9", -1, -1);
        slips("=100+A1", "=99+A1", 1, 100);
        slips("=999+A1", "=1000+A1", 1, 999);
    }

    private static void changesOfSigns() {
        sentence("of a sign + - * / between two: the others of these, in that order (what binds stays as it was read)");
        String signs = "+-*/";
        for (char meant : signs.toCharArray()) {
            for (char sign : signs.toCharArray()) {
                if (meant != sign) {
                    slips("=A1" + meant + "B1", "=A1" + sign + "B1", 3, meant);
                    slips("=1+(A1" + meant + "B1)", "=1+(A1" + sign + "B1)", 6, meant);
                }
            }
        }
        slips("=(A1+B1)*7", "=A1+B1+7", 6, '*');
        slips("=A1*(B1*7)", "=A1+B1*7", 3, '*');
        slips("=A1+(B1+7)", "=A1+B1*7", 6, '+');
        slips("=A1-(B1-7)", "=A1-B1/7", 6, '-');
        slips("=(A1*B1)-7", "=A1-B1-7", 3, '*');
        slips("=A1-B1*7", "=A1-B1-7", -1, -1);
    }

    private static void changesInOrder() {
        sentence("THE SLIP is the first one that makes it so: by places, at one place in this order");
        slips("=A1", "=A1*(B1-B1)", 3, '+');
        slips("=A1*1", "=A1+1", 3, '*');
        slips("=-4", "=-2+2", 3, '-');
        slips("=2", "=4+2", 2, '-');
        slips("=2", "=4*2", 2, '-');
        slips("=4", "=2-2", 2, '+');
        slips("=4", "=2/2", 2, '+');
        slips("=-2", "=-4-2", 3, '+');
        slips("=-2", "=-4*2", 3, '+');
        slips("=M(10,0)", "=M(10,50/(0*9+1))", 10, 1);
        slips("=3", "=M(1,2)", 5, 3);
        slips("=2", "=1*1", 1, 2);
        SheetMarker x = withWorlds(1);
        x.wants(63, 1);
        for (int c = 0; c < 63; c++) {
            x.number(1, c, 7);
        }
        writes(x, 0, "H8", "=7");
        for (int c = 0; c < 63; c++) {
            x.number(1, c, 8);
            write(x, 1, 63, "=" + name(c));
            due("first beside " + name(c), x.slip(1, 63, 1), c >= 8 ? c - 8 : c + 8);
            x.number(1, c, 7);
        }
        x.number(1, at("C3"), 8);
        x.number(1, at("C2"), 9);
        write(x, 1, 63, "=C3");
        due("below", x.slip(1, 63, 1), at("C4"));
        x.number(1, at("C4"), 9);
        due("to the left", x.slip(1, 63, 1), at("B3"));
        x.number(1, at("B3"), 9);
        due("to the right", x.slip(1, 63, 1), at("D3"));
        x.number(1, at("D3"), 9);
        due("none", x.kind(1, 63), 5);
    }

    private static void notChanged() {
        sentence("(The - of a FACTOR, S and M are not changed; no two are changed at once.)");
        slips("=A1", "=-A1", -1, -1);
        slips("=A1*B1", "=-A1*B1", -1, -1);
        slips("=A1*B1", "=A1*-B1", -1, -1);
        slips("=0-A1", "=--A1", -1, -1);
        slips("=B1", "=M(A1,B1)", 3, 8);
        slips("=5*B1", "=M(A1*5,B1*5)", 3, 8);
        slips("=A1+B1+B1", "=A1+B1", -1, -1);
        slips("=A1*B1+5", "=A1+B1*4", -1, -1);
        slips("=A1+2", "=A1", -1, -1);
        slips("=A1+B1", "=S(A1:A1)", 3, 1);
        slips("=A1", "=S(A1:B1)", 6, 0);
        slips("=B1*9", "=S(A1:B1)*9", 3, 1);
    }

    private static void shares() {
        sentence("RIGHT, CARRIED: all; SLIP: half, rounded down; TYPED: a quarter, rounded down; else 0");
        SheetMarker x = lesson();
        writes(x, 1, "B1", "=A1+0*A1");
        writes(x, 2, "B1", "=A1+1");
        x.number(3, 1, 6);
        x.number(4, 1, 7);
        for (int points : new int[] {1, 2, 3, 4, 5, 7, 8, 9, 98, 99, 100}) {
            x.wants(1, points);
            due("right of " + points, x.points(1, 1), points);
            due("slip of " + points, x.points(2, 1), points / 2);
            due("typed of " + points, x.points(3, 1), points / 4);
            due("wrong of " + points, x.points(4, 1), 0);
            due("empty of " + points, x.points(5, 1), 0);
            for (int s = 1; s < 6; s++) {
                due("total is the one", x.points(s, -1), x.points(s, 1));
            }
        }
        due("kinds", 1000 * x.kind(1, 1) + 100 * x.kind(2, 1) + 10 * x.kind(3, 1) + x.kind(4, 1), 1425);
    }

    private static void total() {
        sentence("c NONE: THE TOTAL, the sum of the POINTS of all WANTED");
        SheetMarker x = withWorlds(1);
        due("of none", x.points(5, -1), 0);
        for (int i = 0; i < 16; i++) {
            x.wants(i + 24, i < 8 ? 100 : 3);
            write(x, 0, i + 24, "=" + (10 + i));
            write(x, 1, i + 24, "=" + (10 + i));
            write(x, 2, i + 24, "=" + (11 + i));
            x.number(3, i + 24, 10 + i);
        }
        due("all right", x.points(1, -1), 824);
        due("all points", x.count(3), 824);
        due("all slips, each rounded down", x.points(2, -1), 8 * 50 + 8);
        due("all typed, each rounded down", x.points(3, -1), 8 * 25);
        due("all empty", x.points(4, -1), 0);
        for (int i = 0; i < 16; i++) {
            x.wants(i + 24, 100);
        }
        due("the most", x.points(1, -1), 1600);
        due("the most", x.count(3), 1600);
        due("half the most", x.points(2, -1), 800);
        for (int c : new int[] {DEEP, -2, 23, 40, 64, FAR}) {
            due("not wanted " + c, x.points(1, c), -1);
        }
        for (int s : NO_PUPILS) {
            due("no pupil " + s, x.points(s, -1), -1);
        }
    }

    // ---- Asking: i, what

    private static void whatOfSlip() {
        sentence("what 0 its place in the TEXT, 1 what it makes of it. NONE for others");
        SheetMarker x = lesson();
        writes(x, 1, "B1", "=A1*2");
        due("0", x.slip(1, 1, 0), 4);
        due("1", x.slip(1, 1, 1), 1);
        for (int what : new int[] {DEEP, -1, 2, FAR}) {
            due("what " + what, x.slip(1, 1, what), -1);
        }
        writes(x, 1, "B1", "=2*A1");
        due("the first place", x.slip(1, 1, 0), 1);
        due("what is made of it", x.slip(1, 1, 1), 1);
        writes(x, 0, "B1", "=A1+3");
        writes(x, 1, "B1", "=A1+(" + "B2+".repeat(10) + "B2+2)");
        due("the last but one of 40", x.slip(1, 1, 0), 38);
        due("what is made of it", x.slip(1, 1, 1), 3);
        writes(x, 1, "B1", "=M(A1,0)+" + "B2+".repeat(10) + "2");
        due("the last of 40", x.slip(1, 1, 0), 39);
        due("what is made of it", x.slip(1, 1, 1), 3);
        writes(x, 1, "B1", "=M(A1,0)+" + "B2+".repeat(10) + "5");
        due("none in 40", x.slip(1, 1, 0), -1);
        due("none in 40", x.kind(1, 1), 5);
        for (int kind = 0; kind < 4; kind++) {
            SheetMarker y = lesson();
            y.wants(2, 1);
            due("kind " + kind, lessonWith(y, kind), kind);
            due("no place", y.slip(1, 2, 0), -1);
            due("nothing made", y.slip(1, 2, 1), -1);
        }
    }

    private static int lessonWith(SheetMarker x, int kind) {
        writes(x, 0, "C1", "=B1+1");
        x.number(1, 1, 44);
        if (kind == 1) {
            writes(x, 1, "C1", "=A1+1");
        } else if (kind == 2) {
            x.number(1, 2, 7);
        } else if (kind == 3) {
            writes(x, 1, "C1", "=B1+1");
        }
        return x.kind(1, 2);
    }

    private static void faultsByNumber() {
        sentence("The i-th WANTED CELL, by number, whose KIND is neither 1 nor 3; NONE: there is none such");
        SheetMarker x = withWorlds(1);
        due("none wanted", x.fault(1, 0), -1);
        for (int i = 15; i >= 0; i--) {
            x.wants(4 * i + 3, 1);
        }
        for (int i = 0; i < 16; i++) {
            due("fault " + i, x.fault(1, i), 4 * i + 3);
        }
        for (int i : new int[] {DEEP, -1, 16, 17, FAR}) {
            due("fault " + i, x.fault(1, i), -1);
        }
        for (int i = 0; i < 16; i++) {
            write(x, 1, 4 * i + 3, "=0");
            due("the next is the first", x.fault(1, 0), i < 15 ? 4 * i + 7 : -1);
            due("the last", x.fault(1, 14 - i), i < 15 ? 63 : -1);
            due("behind the last", x.fault(1, 15 - i), -1);
        }
        x.number(1, 3, 0);
        x.number(1, 7, 1);
        due("typed is a fault", x.fault(1, 0), 3);
        due("wrong is a fault", x.fault(1, 1), 7);
        writes(x, 1, "D1", "=1");
        due("a slip is a fault", x.fault(1, 0), 3);
    }

    private static void copiedByNumber() {
        sentence("The i-th CELL that SHEETS s and t have COPIED; NONE: there is none such");
        SheetMarker x = new SheetMarker();
        due("none", x.copied(1, 5, 0), -1);
        for (int c = 0; c < 64; c++) {
            write(x, 1, c, "=" + c);
            write(x, 5, c, "=" + c);
        }
        for (int i = 0; i < 64; i++) {
            due("copied " + i, x.copied(5, 1, i), i);
        }
        for (int i : new int[] {DEEP, -1, 64, 65, FAR}) {
            due("copied " + i, x.copied(1, 5, i), -1);
        }
        for (int c = 56; c < 64; c++) {
            x.input(c);
            due("no input", x.copied(1, 5, c - (c - 56)), c < 63 ? c + 1 : -1);
        }
        due("the last that is none", x.copied(1, 5, 55), 55);
        due("no more", x.copied(1, 5, 56), -1);
        write(x, 0, 0, "=0");
        due("the task has the first", x.copied(1, 5, 0), 1);
        due("the last", x.copied(1, 5, 54), 55);
        due("no more", x.copied(1, 5, 55), -1);
    }

    private static void copiedTexts() {
        sentence("COPIED: both have FORMULAS of one TEXT, which THE TASK has not there");
        String forty = ones(40);
        String[] others = {ones(38), ones(39).substring(0, 38) + "+2", "=1", "=2" + forty.substring(2)};
        SheetMarker x = new SheetMarker();
        due("40 bytes", write(x, 1, 63, forty) + write(x, 2, 63, forty), 0);
        due("one text of 40", x.copied(1, 2, 0), 63);
        for (String other : others) {
            due("another text", write(x, 2, 63, other), 0);
            due("not one text", x.copied(1, 2, 0), -1);
            due("not one text", x.copied(2, 1, 0), -1);
            due("the task's text", write(x, 0, 63, other) + write(x, 2, 63, forty), 0);
            due("which the task has not", x.copied(1, 2, 0), 63);
        }
        due("the task's text", write(x, 0, 63, forty), 0);
        due("which the task has", x.copied(1, 2, 0), -1);
        x.clear(0, 63);
        due("the task has nothing", x.copied(1, 2, 0), 63);
        x.number(0, 63, 1);
        due("the task has a number", x.copied(1, 2, 0), 63);
        x.number(1, 63, 1);
        x.number(2, 63, 1);
        due("numbers are not copied", x.copied(1, 2, 0), -1);
        x.clear(1, 63);
        x.clear(2, 63);
        due("nothing is not copied", x.copied(1, 2, 0), -1);
    }

    private static void whatOfLook() {
        sentence("look's what 0, 1, 2, 10 + i byte i of the FORMULA. NONE for others");
        SheetMarker x = new SheetMarker();
        String text = ones(40);
        write(x, 5, 63, text);
        x.number(5, 62, 9);
        due("0 formula", x.look(5, 63, 0), 2);
        due("0 number", x.look(5, 62, 0), 1);
        due("0 empty", x.look(5, 61, 0), 0);
        due("1 formula", x.look(5, 63, 1), 40);
        due("1 number", x.look(5, 62, 1), 9);
        due("1 empty", x.look(5, 61, 1), 0);
        for (int i = 0; i < 40; i++) {
            due("byte " + i, x.look(5, 63, 10 + i), text.charAt(i));
            due("byte " + i + " of a number", x.look(5, 62, 10 + i), -1);
            due("byte " + i + " of nothing", x.look(5, 61, 10 + i), -1);
        }
        for (int what : new int[] {DEEP, DEEP + 9, DEEP + 10, -1, 3, 4, 9, 50, 51, FAR}) {
            due("what " + what, x.look(5, 63, what), -1);
            due("what " + what + " of a number", x.look(5, 62, what), -1);
            due("what " + what + " of nothing", x.look(5, 61, what), -1);
        }
        writes(x, 5, "A1", "=1");
        due("the last of 2", x.look(5, 0, 11), '1');
        due("behind the last", x.look(5, 0, 12), -1);
    }

    private static void coming() {
        sentence("2 how many CELLS of the SHEET come to it by NEEDING (itself, too, if it does)");
        SheetMarker x = new SheetMarker();
        due("none", x.look(4, 63, 2), 0);
        writes(x, 4, "A1", "=S(A1:H8)");
        for (int c = 0; c < 64; c++) {
            due("one comes to each, itself, too", x.look(4, c, 2), 1);
        }
        writes(x, 4, "H8", "=S(A1:H8)");
        for (int c = 0; c < 64; c++) {
            due("two come to each", x.look(4, c, 2), 2);
        }
        writes(x, 4, "A1", "=S(B1:B2)");
        due("not by H8's circle", x.look(4, at("B1"), 2), 2);
        due("H8 alone", x.look(4, at("C1"), 2), 1);
        due("beside the rectangle", x.look(4, at("A2"), 2), 1);
        x.number(4, 63, 1);
        due("a number needs nothing", x.look(4, at("C1"), 2), 0);
        due("in another sheet", x.look(3, at("B1"), 2), 0);
    }

    private static void whatOfCount() {
        sentence("count's what 0 to 4, 100 + c POINTS of CELL c (0: not WANTED). NONE for others");
        SheetMarker x = withWorlds(2);
        for (int c = 0; c < 3; c++) {
            x.input(c);
        }
        x.wants(63, 100);
        x.feed(0, 0, 0, 0, 0);
        due("inputs", x.count(0), 3);
        due("wanted", x.count(1), 1);
        due("worlds", x.count(2), 2);
        due("all points", x.count(3), 100);
        due("bytes", x.count(4), 20);
        for (int c = 0; c < 64; c++) {
            due("points of " + c, x.count(100 + c), c == 63 ? 100 : 0);
        }
        for (int what : new int[] {DEEP, DEEP + 100, -100, -2, -1, 5, 6, 63, 99, 164, 165, 200, FAR}) {
            due("what " + what, x.count(what), -1);
        }
        x.wants(62, 1);
        due("all points", x.count(3), 101);
        due("points anew", x.wants(63, 1) ? x.count(163) : -9, 1);
        due("all points", x.count(3), 2);
    }
}
