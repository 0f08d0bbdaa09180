/** Promise by promise: ordinary inputs, the edges that the document names, and wrong inputs. */
public final class PromiseTest extends Answers {
    public static void main(String[] args) {
        aNewObject();
        feed();
        number();
        formulaReads();
        formulaFaults();
        formulaRefuses();
        clear();
        input();
        wants();
        world();
        give();
        valueReckons();
        valueInWorlds();
        error();
        errorOrder();
        circles();
        right();
        rightCircles();
        kind();
        kindsInWorlds();
        points();
        slipSigns();
        slipNumbersAndCells();
        slipAtTheEdge();
        fault();
        copied();
        look();
        lookComing();
        count();
        end();
    }

    private static void faulty(String text, int want) {
        SheetMarker x = new SheetMarker();
        due("fault of " + text, write(x, 0, "A1", text), want);
        due("tape behind the fault of " + text, x.count(4), 0);
        due("cell behind the fault of " + text, x.look(0, 0, 0), 0);
    }

    /** What a formula in D4 reckons in a sheet with some numbers. */
    private static void reckons(String text, long value, int error) {
        SheetMarker x = new SheetMarker();
        x.world();
        x.number(2, at("A1"), 7);
        x.number(2, at("B1"), -2);
        x.number(2, at("A2"), 100);
        x.number(2, at("B2"), 9999);
        writes(x, 2, "C1", "=1/0");
        writes(x, 2, "C2", "=9999*9999*9999*9999");
        writes(x, 2, "C3", "=9999*9999*9999");
        writes(x, 2, "D4", text);
        due("value of " + text, x.value(2, at("D4"), 0), value);
        due("error of " + text, x.error(2, at("D4"), 0), error);
    }

    private static void aNewObject() {
        sentence("Promise 1: a new object");
        SheetMarker x = new SheetMarker();
        for (int what = 0; what < 5; what++) {
            due("new count " + what, x.count(what), 0);
        }
        for (int s = 0; s < 6; s++) {
            for (int c = 0; c < 64; c++) {
                due("new look", x.look(s, c, 0), 0);
            }
            due("new value", x.value(s, 0, 0), -1);
            due("new total", x.points(s, -1), s == 0 ? -1 : 0);
        }
        for (int c = 0; c < 64; c++) {
            due("new points", x.count(100 + c), 0);
        }
        due("first world", x.world(), 0);
        due("value of an empty cell", x.value(5, 63, 0), 0);
        due("one object's state is not another's", new SheetMarker().count(2), 0);
    }

    private static void feed() {
        sentence("Promise 2: feed");
        SheetMarker x = new SheetMarker();
        due("feed", x.feed(word("=123", 0), word("+A1*", 0), word("2-B7", 0), word("/3+(", 0), word("H8) ", 0)), 20);
        due("formula of the fed", x.formula(0, 0, 19), 0);
        String text = "=123+A1*2-B7/3+(H8)";
        for (int i = 0; i < text.length(); i++) {
            due("byte " + i, x.look(0, 0, 10 + i), text.charAt(i));
        }
        due("feed 20", x.feed(0, 0, 0, 0, 0), 20);
        due("feed 40", x.feed(0, 0, 0, 0, 0), 40);
        due("feed 60", x.feed(0, 0, 0, 0, 0), 60);
        due("feed 80", x.feed(0, 0, 0, 0, 0), -1);
        due("tape as it was", x.count(4), 60);
        due("bytes above 127 are no signs", x.formula(0, 0, 40), 100);
        due("feed again", x.feed(-1, -1, -1, -1, -1), 20);
        due("formula of bytes 255", x.formula(0, 0, 20), 100);
        x.feed(word("=1+2", 0), 0x2BFF0000, 0, 0, 0);
        due("a byte 255 behind a sign", x.formula(0, 0, 6), 105);
    }

    private static void number() {
        sentence("Promise 3: number");
        SheetMarker x = new SheetMarker();
        due("number", x.number(0, 0, 5), true);
        due("its look", x.look(0, 0, 1), 5);
        due("least", x.number(5, 63, -9999), true);
        due("most", x.number(5, 62, 9999), true);
        due("least is there", x.look(5, 63, 1), -9999);
        due("most is there", x.look(5, 62, 1), 9999);
        due("too small", x.number(5, 63, -10000), false);
        due("too great", x.number(5, 63, 10000), false);
        due("stays", x.look(5, 63, 1), -9999);
        for (int bad : new int[] {-1, 6, FAR, DEEP}) {
            due("no sheet " + bad, x.number(bad, 0, 0), false);
        }
        for (int bad : new int[] {-1, 64, FAR, DEEP}) {
            due("no cell " + bad, x.number(0, bad, 0), false);
        }
        due("far too great", x.number(0, 0, FAR), false);
        due("far too small", x.number(0, 0, DEEP), false);
        writes(x, 0, "A1", "=1");
        due("over a formula", x.number(0, 0, 3), true);
        due("no formula any more", x.look(0, 0, 0), 1);
        due("input holds a number", x.input(9) && x.number(1, 9, 4), true);
        due("input's number", x.look(1, 9, 1), 4);
    }

    private static void formulaReads() {
        sentence("Promise 4: formula, what it reads");
        SheetMarker x = new SheetMarker();
        String forty = "=1+2*3-4/5+A1*B2-C3/D4+E5-F6+G7*H8-10+11";
        due("forty bytes", forty.length(), 40);
        writes(x, 1, "A1", forty);
        due("its length", x.look(1, 0, 1), 40);
        writes(x, 1, "A1", "=0001+0+9999");
        writes(x, 1, "A1", "=((((((1))))))");
        writes(x, 1, "A1", "=------1+------1");
        writes(x, 1, "A1", "=(1)+(2)*(3)-(4)/(5)+(6)+(7)+(8)");
        writes(x, 1, "A1", "=M(M(M(M(M(M(1,2),3),4),5),6),7)");
        writes(x, 1, "A1", "=M(1,-(-(-1)))");
        writes(x, 1, "A1", "=(((((S(A1:H8))))))");
        writes(x, 1, "A1", "=-----S(H8:A1)");
        writes(x, 1, "A1", "=-----(1)-(-(-1))");
        due("the last one is there", x.look(1, 0, 1), 17);
        feedText(x, "=1+1+1");
        due("fewer bytes than the tape has", x.formula(1, 1, 3), 103);
        due("the whole tape is empty", x.count(4), 0);
        feedText(x, "=1+1+1");
        due("fewer bytes than the tape has", x.formula(1, 1, 2), 0);
        due("the whole tape is empty", x.count(4), 0);
        due("the length", x.look(1, 1, 1), 2);
        due("over a number", x.number(1, 2, 5) ? write(x, 1, "C1", "=A1") : -9, 0);
        due("a formula now", x.look(1, 2, 0), 2);
        due("in an input", x.input(7) ? write(x, 1, "H1", "=A1") : -9, 0);
    }

    private static void formulaFaults() {
        sentence("Promise 4: formula, faults");
        faulty("", 100);
        faulty("1", 100);
        faulty("=", 101);
        faulty("==1", 101);
        faulty("=+1", 101);
        faulty("=*1", 101);
        faulty("=)", 101);
        faulty("=,", 101);
        faulty("=:", 101);
        faulty("= 1", 101);
        faulty("=1 ", 102);
        faulty("=1)", 102);
        faulty("=1,2", 102);
        faulty("=1(2)", 102);
        faulty("=1A1", 102);
        faulty("=12345", 105);
        faulty("=(12345)", 106);
        faulty("=00000", 105);
        faulty("=1+", 103);
        faulty("=1-+1", 103);
        faulty("=1**1", 103);
        faulty("=A", 102);
        faulty("=A0", 102);
        faulty("=A9", 102);
        faulty("=a1", 101);
        faulty("=I1", 101);
        faulty("=A11", 103);
        faulty("=A1B1", 103);
        faulty("=AB1", 102);
        faulty("=(1", 103);
        faulty("=()", 102);
        faulty("=(1,2)", 103);
        faulty("=S", 102);
        faulty("=S1", 102);
        faulty("=S(", 103);
        faulty("=S(1:A1)", 103);
        faulty("=S(A1", 105);
        faulty("=S(A1)", 105);
        faulty("=S(A1,B2)", 105);
        faulty("=S(A1:", 106);
        faulty("=S(A1:2)", 106);
        faulty("=S(A1:B2", 108);
        faulty("=S(A1:B2+1)", 108);
        faulty("=M", 102);
        faulty("=M1", 102);
        faulty("=M(", 103);
        faulty("=M()", 103);
        faulty("=M(1)", 104);
        faulty("=M(1,)", 105);
        faulty("=M(1,2", 106);
        faulty("=M(1,2,3)", 106);
        faulty("=M(1:2)", 104);
        faulty("=-", 102);
        faulty("=1=1", 102);
        faulty("=(((((((1)))))))", 207);
        faulty("=-------1", 207);
        faulty("=------(1)", 207);
        faulty("=------S(A1:A1)", 207);
        faulty("=------M(1,1)", 207);
        faulty("=------S", 207);
        faulty("=------M1", 207);
        faulty("=((((((1+-1))))))", 209);
        faulty("=M(M(M(M(M(M(1,-1),1),1),1),1),1)", 215);
        faulty("=((((((1)))))+-1", 116);
        faulty("=1+((((((+(1", 109);
        faulty("=((((((-)", 207);
    }

    private static void formulaRefuses() {
        sentence("Promise 4: formula, refused");
        SheetMarker x = new SheetMarker();
        feedText(x, "=1+2");
        for (int bad : new int[] {-1, 6, FAR, DEEP}) {
            due("no sheet " + bad, x.formula(bad, 0, 4), -1);
        }
        for (int bad : new int[] {-1, 64, FAR, DEEP}) {
            due("no cell " + bad, x.formula(0, bad, 4), -1);
        }
        for (int bad : new int[] {-1, 21, 41, FAR, DEEP}) {
            due("no n " + bad, x.formula(0, 0, bad), -1);
        }
        due("the tape stays", x.count(4), 20);
        due("and is good", x.formula(0, 0, 4), 0);
        x.feed(0, 0, 0, 0, 0);
        x.feed(0, 0, 0, 0, 0);
        x.feed(0, 0, 0, 0, 0);
        due("n above 40", x.formula(0, 0, 41), -1);
        due("the tape stays", x.count(4), 60);
        due("n of 40", x.formula(0, 0, 40), 100);
        due("the cell stays", x.look(0, 0, 1), 4);
    }

    private static void clear() {
        sentence("Promise 5: clear");
        SheetMarker x = new SheetMarker();
        due("clear an empty cell", x.clear(1, 1), false);
        x.number(1, 1, 0);
        due("clear a number 0", x.clear(1, 1), true);
        due("it is empty", x.look(1, 1, 0), 0);
        due("clear it again", x.clear(1, 1), false);
        writes(x, 1, "B1", "=A1");
        due("A1 is needed", x.look(1, 0, 2), 1);
        due("not in another sheet", x.clear(2, 1), false);
        due("clear a formula", x.clear(1, 1), true);
        due("A1 is not needed", x.look(1, 0, 2), 0);
        due("no bytes", x.look(1, 1, 10), -1);
        for (int bad : new int[] {-1, 6, FAR, DEEP}) {
            due("no sheet " + bad, x.clear(bad, 0), false);
        }
        for (int bad : new int[] {-1, 64, FAR, DEEP}) {
            due("no cell " + bad, x.clear(0, bad), false);
        }
    }

    private static void input() {
        sentence("Promise 6: input");
        SheetMarker x = new SheetMarker();
        due("input", x.input(0), true);
        due("again", x.input(0), false);
        due("wanted", x.wants(1, 1) && x.input(1), false);
        for (int bad : new int[] {-1, 64, FAR, DEEP}) {
            due("no cell " + bad, x.input(bad), false);
        }
        for (int c = 2; c < 9; c++) {
            due("input " + c, x.input(c), true);
        }
        due("a ninth", x.input(63), false);
        due("eight are", x.count(0), 8);
        SheetMarker y = new SheetMarker();
        y.world();
        y.number(3, 4, 17);
        writes(y, 3, "F1", "=E1");
        due("value ahead", y.value(3, 4, 0), 17);
        due("an input later", y.input(4), true);
        due("value of an input is the world's", y.value(3, 4, 0), 0);
        due("and so what needs it", y.value(3, 5, 0), 0);
    }

    private static void wants() {
        sentence("Promise 7: wants");
        SheetMarker x = new SheetMarker();
        due("least", x.wants(0, 1), true);
        due("most", x.wants(1, 100), true);
        due("none", x.wants(2, 0), false);
        due("too many", x.wants(2, 101), false);
        due("anew", x.wants(0, 50), true);
        due("the new points", x.count(100), 50);
        due("anew, wrong", x.wants(0, 101), false);
        due("the points stay", x.count(100), 50);
        due("input", x.input(3) && x.wants(3, 1), false);
        for (int bad : new int[] {-1, 64, FAR, DEEP}) {
            due("no cell " + bad, x.wants(bad, 1), false);
            due("no points " + bad, x.wants(4, bad), bad == 64);
        }
        for (int c = 8; c < 21; c++) {
            due("wants " + c, x.wants(c, 2), true);
        }
        due("sixteen are", x.count(1), 16);
        due("a seventeenth", x.wants(63, 1), false);
        due("anew with sixteen", x.wants(20, 3), true);
        due("all points", x.count(3), 50 + 100 + 64 + 12 * 2 + 3);
    }

    private static void world() {
        sentence("Promise 8: world");
        SheetMarker x = new SheetMarker();
        for (int w = 0; w < 6; w++) {
            due("no value yet", x.value(0, 0, w), -1);
            due("world", x.world(), w);
            due("a value", x.value(0, 0, w), 0);
        }
        due("a seventh", x.world(), -1);
        due("six are", x.count(2), 6);
    }

    private static void give() {
        sentence("Promise 9: give");
        SheetMarker x = new SheetMarker();
        x.input(63);
        due("no world yet", x.give(0, 63, 1), false);
        x.world();
        x.world();
        due("0 at first", x.value(4, 63, 1), 0);
        due("give least", x.give(0, 63, -9999), true);
        due("give most", x.give(1, 63, 9999), true);
        due("in world 0", x.value(4, 63, 0), -9999);
        due("in world 1", x.value(0, 63, 1), 9999);
        due("too small", x.give(0, 63, -10000), false);
        due("too great", x.give(0, 63, 10000), false);
        due("no input", x.give(0, 62, 1), false);
        for (int bad : new int[] {-1, 2, 6, FAR, DEEP}) {
            due("no world " + bad, x.give(bad, 63, 1), false);
        }
        for (int bad : new int[] {-1, 64, 127, FAR, DEEP}) {
            due("no cell " + bad, x.give(0, bad, 1), false);
        }
        due("stays", x.value(4, 63, 0), -9999);
        due("anew", x.give(0, 63, 12), true);
        due("the new one", x.value(4, 63, 0), 12);
    }

    private static void valueReckons() {
        sentence("Promise 10: value, what is reckoned");
        reckons("=1+2*3-4", 3, 0);
        reckons("=10-3-2", 5, 0);
        reckons("=100/7/2", 7, 0);
        reckons("=2*7/4*3", 9, 0);
        reckons("=(1+2)*3", 9, 0);
        reckons("=-7/2", -4, 0);
        reckons("=7/-2", -4, 0);
        reckons("=-7/-2", 3, 0);
        reckons("=-(7/2)", -3, 0);
        reckons("=-6/2", -3, 0);
        reckons("=0/-5", 0, 0);
        reckons("=--7", 7, 0);
        reckons("=2--7", 9, 0);
        reckons("=2*-7", -14, 0);
        reckons("=-2*-7-1", 13, 0);
        reckons("=0010", 10, 0);
        reckons("=A1*B1+A2", 86, 0);
        reckons("=S(A1:B2)", 10104, 0);
        reckons("=S(B2:A1)", 10104, 0);
        reckons("=S(B1:A2)", 10104, 0);
        reckons("=S(A1:A2)", 107, 0);
        reckons("=S(A1:B1)", 5, 0);
        reckons("=S(E5:H8)", 0, 0);
        reckons("=S(B1:B1)*3", -6, 0);
        reckons("=M(A1,B1)", 7, 0);
        reckons("=M(B1,A1)", 7, 0);
        reckons("=M(-5,-6)", -5, 0);
        reckons("=M(1+1,5)-M(3,2*1)", 2, 0);
        reckons("=H8", 0, 0);
        SheetMarker x = new SheetMarker();
        x.world();
        x.number(0, 0, -1);
        due("a value -1", x.value(0, 0, 0), -1);
        due("and no error", x.error(0, 0, 0), 0);
    }

    private static void valueInWorlds() {
        sentence("Promise 10: value, in worlds");
        SheetMarker x = new SheetMarker();
        x.input(at("A1"));
        x.world();
        x.world();
        x.give(0, at("A1"), 3);
        x.give(1, at("A1"), -8);
        x.number(1, at("A1"), 500);
        writes(x, 2, "A1", "=B1/0");
        for (int s = 0; s < 6; s++) {
            writes(x, s, "B1", "=A1*A1+" + s);
            due("world 0", x.value(s, at("B1"), 0), 9 + s);
            due("world 1", x.value(s, at("B1"), 1), 64 + s);
            due("the input", x.value(s, at("A1"), 1), -8);
            due("its error", x.error(s, at("A1"), 1), 0);
        }
        for (int bad : new int[] {-1, 2, 6, FAR, DEEP}) {
            due("no world " + bad, x.value(0, 0, bad), -1);
        }
        for (int bad : new int[] {-1, 6, FAR, DEEP}) {
            due("no sheet " + bad, x.value(bad, 0, 0), -1);
        }
        for (int bad : new int[] {-1, 64, FAR, DEEP}) {
            due("no cell " + bad, x.value(0, bad, 0), -1);
        }
        SheetMarker y = new SheetMarker();
        y.world();
        y.number(0, 0, 1);
        for (int c = 1; c < 64; c++) {
            writes(y, 0, name(c), "=((((((" + name(c - 1) + "+1))))))");
        }
        due("a chain of 64 cells", y.value(0, 63, 0), 64);
        writes(y, 0, "A1", "=H8");
        due("a circle of 64 cells", y.error(0, 63, 0), 1);
        due("all come to it", y.look(0, 0, 2), 64);
    }

    private static void error() {
        sentence("Promise 11: error");
        reckons("=1/0", 0, 2);
        reckons("=0/0", 0, 2);
        reckons("=5/(A1-7)", 0, 2);
        reckons("=C3+9999*9999*2", 999899990001L, 0);
        reckons("=9999*9999*9999", 999700029999L, 0);
        reckons("=9999*9999*9999*9999", 0, 3);
        reckons("=-9999*9999*9999*9999", 0, 3);
        reckons("=C3*C3", 0, 3);
        reckons("=C3*-C3", 0, 3);
        reckons("=C3*0", 0, 0);
        reckons("=0*C3", 0, 0);
        reckons("=C3+C3-C3", 0, 3);
        reckons("=-C3-C3", 0, 3);
        reckons("=1000*1000*1000*1000", 1000000000000L, 0);
        reckons("=1000*1000*1000*1000+1", 0, 3);
        reckons("=-1000*1000*1000*1000", -1000000000000L, 0);
        reckons("=-1000*1000*1000*1000-1", 0, 3);
        reckons("=1000*1000*1000*1000/1000", 1000000000L, 0);
        reckons("=C1", 0, 2);
        reckons("=C2", 0, 3);
        reckons("=0*C1", 0, 2);
        reckons("=M(C2,1)", 0, 3);
        reckons("=-C1", 0, 2);
        SheetMarker x = new SheetMarker();
        due("no world", x.error(0, 0, 0), -1);
        x.world();
        due("an empty cell", x.error(0, 0, 0), 0);
        for (int bad : new int[] {-1, 1, 6, FAR, DEEP}) {
            due("no world " + bad, x.error(0, 0, bad), -1);
        }
        for (int bad : new int[] {-1, 6, FAR, DEEP}) {
            due("no sheet " + bad, x.error(bad, 0, 0), -1);
        }
        for (int bad : new int[] {-1, 64, FAR, DEEP}) {
            due("no cell " + bad, x.error(0, bad, 0), -1);
        }
    }

    private static void errorOrder() {
        sentence("Promise 11: error, which is met first");
        reckons("=C1+C2", 0, 2);
        reckons("=C2+C1", 0, 3);
        reckons("=1/0+C2", 0, 2);
        reckons("=C2+1/0", 0, 3);
        reckons("=C2/0", 0, 3);
        reckons("=1/0*C2", 0, 2);
        reckons("=C3+C3*2+1/0", 0, 3);
        reckons("=C3+C3+1/0", 0, 3);
        reckons("=C3+C3/0", 0, 2);
        reckons("=M(1/0,C2)", 0, 2);
        reckons("=M(C2,1/0)", 0, 3);
        reckons("=S(C1:C2)", 0, 2);
        reckons("=S(C2:C1)", 0, 2);
        reckons("=S(C2:D2)+C1", 0, 3);
        SheetMarker x = new SheetMarker();
        x.world();
        writes(x, 0, "A1", "=1000*1000*1000*999");
        writes(x, 0, "B1", "=1000*1000*1000*2");
        writes(x, 0, "C1", "=-1000*1000*1000*9");
        writes(x, 0, "D1", "=1/0");
        writes(x, 0, "A2", "=S(A1:C1)");
        due("the sum is great on the way", x.error(0, at("A2"), 0), 3);
        writes(x, 0, "A2", "=S(A1:D1)");
        due("great ahead of D1's error", x.error(0, at("A2"), 0), 3);
        x.clear(0, at("B1"));
        due("D1's error", x.error(0, at("A2"), 0), 2);
        writes(x, 0, "D1", "=1000*1000*1000*4");
        due("not great on the way now", x.value(0, at("A2"), 0), 994000000000L);
        writes(x, 0, "A2", "=9999-D1-A1+C1");
        due("below the bound", x.error(0, at("A2"), 0), 3);
    }

    private static void circles() {
        sentence("Promise 11: error, circles");
        SheetMarker x = new SheetMarker();
        x.world();
        writes(x, 0, "A1", "=A1");
        due("itself", x.error(0, 0, 0), 1);
        writes(x, 0, "A1", "=0*B1");
        writes(x, 0, "B1", "=M(1,A1)");
        due("two", x.error(0, 0, 0), 1);
        due("value with an error", x.value(0, 0, 0), 0);
        writes(x, 0, "C1", "=1/0+B1");
        due("circle comes ahead of what is met", x.error(0, 2, 0), 1);
        writes(x, 0, "D1", "=1/0+C1*0");
        due("and on", x.error(0, 3, 0), 1);
        writes(x, 0, "E1", "=S(D1:E2)");
        due("in its own rectangle", x.error(0, 4, 0), 1);
        writes(x, 0, "E1", "=S(F1:H8)");
        due("no circle", x.error(0, 4, 0), 0);
        due("another sheet", x.error(1, 0, 0), 0);
        x.input(at("B1"));
        due("broken by an input", x.error(0, 0, 0), 0);
        due("and so behind it", x.error(0, 2, 0), 2);
    }

    private static SheetMarker lesson() {
        SheetMarker x = new SheetMarker();
        x.input(at("A1"));
        x.world();
        x.world();
        x.give(0, at("A1"), 4);
        x.give(1, at("A1"), 10);
        x.wants(at("B1"), 10);
        x.wants(at("C1"), 7);
        x.wants(at("D1"), 100);
        writes(x, 0, "B1", "=A1*2+1");
        writes(x, 0, "C1", "=B1*B1");
        writes(x, 0, "D1", "=C1-B1");
        return x;
    }

    private static void right() {
        sentence("Promise 12: right");
        SheetMarker x = lesson();
        writes(x, 1, "B1", "=A1*3");
        writes(x, 1, "C1", "=E1*B1");
        writes(x, 1, "E1", "=B1+1");
        writes(x, 1, "D1", "=S(B1:C1)");
        due("own figures", x.value(1, at("C1"), 0), 13 * 12);
        due("right figures", x.right(1, at("C1"), 0), 10 * 9);
        due("in world 1", x.right(1, at("C1"), 1), 22 * 21);
        due("its own figure is not lent", x.right(1, at("B1"), 0), 12);
        due("of a rectangle", x.right(1, at("D1"), 0), 9 + 81);
        due("of a cell that is not wanted", x.right(1, at("E1"), 0), 10);
        due("of an input", x.right(1, at("A1"), 1), 10);
        due("of an empty cell", x.right(1, at("H8"), 1), 0);
        due("of a number", x.number(1, at("H8"), -5) ? x.right(1, at("H8"), 1) : 0, -5);
        due("of the task", x.right(0, at("C1"), 0), 81);
        x.number(1, at("B1"), 3);
        due("a number is not lent", x.right(1, at("B1"), 0), 3);
        due("the task's for the others", x.right(1, at("C1"), 0), 90);
        for (int bad : new int[] {-1, 2, 6, FAR, DEEP}) {
            due("no world " + bad, x.right(0, 0, bad), -1);
            due("no world " + bad, x.rightError(0, 0, bad), -1);
        }
        for (int bad : new int[] {-1, 6, FAR, DEEP}) {
            due("no sheet " + bad, x.right(bad, 0, 0), -1);
            due("no sheet " + bad, x.rightError(bad, 0, 0), -1);
        }
        for (int bad : new int[] {-1, 64, FAR, DEEP}) {
            due("no cell " + bad, x.right(0, bad, 0), -1);
            due("no cell " + bad, x.rightError(0, bad, 0), -1);
        }
    }

    private static void rightCircles() {
        sentence("Promise 13: rightError");
        SheetMarker x = lesson();
        writes(x, 1, "B1", "=C1");
        writes(x, 1, "C1", "=B1*B1");
        due("a circle", x.error(1, at("C1"), 0), 1);
        due("none with right figures", x.rightError(1, at("C1"), 0), 0);
        due("but the task's value", x.right(1, at("C1"), 0), 81);
        writes(x, 1, "C1", "=E1");
        writes(x, 1, "E1", "=C1");
        due("back to itself through a cell not wanted", x.rightError(1, at("C1"), 0), 1);
        due("value then", x.right(1, at("C1"), 0), 0);
        due("E1 is lent C1", x.rightError(1, at("E1"), 0), 0);
        writes(x, 1, "C1", "=C1");
        due("back to itself", x.rightError(1, at("C1"), 0), 1);
        writes(x, 1, "C1", "=1/0+F1");
        writes(x, 1, "F1", "=G1");
        writes(x, 1, "G1", "=F1");
        due("a circle of others, ahead of what is met", x.rightError(1, at("C1"), 0), 1);
        writes(x, 0, "B1", "=1/0");
        writes(x, 0, "D1", "=D1");
        writes(x, 1, "C1", "=B1");
        due("the task's error", x.rightError(1, at("C1"), 0), 2);
        writes(x, 1, "C1", "=D1");
        due("the task's circle", x.rightError(1, at("C1"), 0), 1);
        writes(x, 1, "C1", "=B1+D1");
        due("the task's errors as they are met", x.rightError(1, at("C1"), 0), 2);
        writes(x, 1, "C1", "=9999*9999*9999*9999+D1");
        due("the pupil's own error first", x.rightError(1, at("C1"), 0), 3);
        due("the task's own circle", x.rightError(0, at("D1"), 0), 1);
    }

    private static void kind() {
        sentence("Promise 14: kind");
        SheetMarker x = lesson();
        due("empty", x.kind(1, at("B1")), 0);
        writes(x, 1, "B1", "=1+A1+A1");
        due("right", x.kind(1, at("B1")), 1);
        x.number(2, at("B1"), 9);
        due("typed, world 0", x.kind(2, at("B1")), 2);
        x.number(2, at("B1"), 21);
        due("typed, world 1", x.kind(2, at("B1")), 2);
        x.number(2, at("B1"), 20);
        due("a wrong number", x.kind(2, at("B1")), 5);
        writes(x, 2, "C1", "=B1*B1");
        due("carried", x.kind(2, at("C1")), 3);
        writes(x, 2, "C1", "=B1+B1");
        due("slip", x.kind(2, at("C1")), 4);
        writes(x, 2, "C1", "=B1+B1+1+1");
        due("wrong", x.kind(2, at("C1")), 5);
        writes(x, 2, "C1", "=81");
        due("a formula is never typed", x.kind(2, at("C1")), 5);
        for (int bad : new int[] {-1, 0, 6, FAR, DEEP}) {
            due("no pupil " + bad, x.kind(bad, at("B1")), -1);
        }
        for (int bad : new int[] {-1, 0, 4, 64, FAR, DEEP}) {
            due("not wanted " + bad, x.kind(1, bad), -1);
        }
        writes(x, 0, "B1", "=1/0");
        x.number(3, at("B1"), 0);
        due("an error is no value to type", x.kind(3, at("B1")), 5);
        writes(x, 3, "B1", "=2/0");
        due("right with one error", x.kind(3, at("B1")), 1);
        writes(x, 3, "B1", "=9999*9999*9999*9999");
        due("another error", x.kind(3, at("B1")), 5);
        x.clear(0, at("B1"));
        x.number(3, at("B1"), 0);
        due("the task's empty cell is 0", x.kind(3, at("B1")), 2);
    }

    private static void kindsInWorlds() {
        sentence("Promise 14: kind, in worlds");
        SheetMarker x = new SheetMarker();
        x.wants(0, 3);
        writes(x, 0, "A1", "=1");
        writes(x, 1, "A1", "=2");
        x.number(2, 0, 1);
        due("without worlds each formula is right", x.kind(1, 0), 1);
        due("without worlds no number is typed", x.kind(2, 0), 5);
        due("nor is an empty cell anything", x.kind(3, 0), 0);
        x.world();
        due("a world tells", x.kind(1, 0), 4);
        due("a world tells", x.kind(2, 0), 2);
        SheetMarker y = lesson();
        writes(y, 1, "B1", "=A1+5");
        due("right in world 0 alone", y.kind(1, at("B1")), 5);
        writes(y, 1, "B1", "=A1*A1-7");
        due("right in world 0 alone", y.kind(1, at("B1")), 5);
        writes(y, 1, "C1", "=B1*B1+0/(A1-4)");
        due("an error in world 0 alone", y.kind(1, at("C1")), 4);
        writes(y, 1, "C1", "=B1*B1*(0/(A1-4)+1)");
        due("mended by a change", y.kind(1, at("C1")), 4);
        writes(y, 1, "D1", "=C1-B1+E1");
        writes(y, 1, "E1", "=B1-A1-5");
        due("a helper that is lent the right figure", y.right(1, at("D1"), 1), 21 * 21 - 21 + 6);
        due("is a slip", y.kind(1, at("D1")), 4);
    }

    private static void points() {
        sentence("Promise 15: points");
        SheetMarker x = lesson();
        writes(x, 1, "B1", "=A1*2-1");
        writes(x, 1, "C1", "=B1*B1");
        x.number(1, at("D1"), 72);
        due("slip: half", x.points(1, at("B1")), 5);
        due("carried: all", x.points(1, at("C1")), 7);
        due("typed: a quarter", x.points(1, at("D1")), 25);
        due("total", x.points(1, -1), 37);
        x.wants(at("D1"), 99);
        due("a quarter, rounded down", x.points(1, at("D1")), 24);
        x.wants(at("B1"), 1);
        due("a half, rounded down", x.points(1, at("B1")), 0);
        x.wants(at("B1"), 9);
        due("a half, rounded down", x.points(1, at("B1")), 4);
        x.number(1, at("D1"), 71);
        due("wrong: none", x.points(1, at("D1")), 0);
        due("empty: none", x.points(2, at("D1")), 0);
        writes(x, 1, "B1", "=2*A1+1");
        due("right: all", x.points(1, at("B1")), 9);
        due("total", x.points(1, -1), 16);
        due("total of an empty sheet", x.points(5, -1), 0);
        for (int bad : new int[] {-1, 0, 6, FAR, DEEP}) {
            due("no pupil " + bad, x.points(bad, at("B1")), -1);
            due("no pupil's total " + bad, x.points(bad, -1), -1);
        }
        for (int bad : new int[] {-2, 0, 4, 64, FAR, DEEP}) {
            due("not wanted " + bad, x.points(1, bad), -1);
        }
    }

    /** A task's and a pupil's formula in C3 over A1 = 6 and 10, B1 = 3 and 4; the slip that is due. */
    private static void slips(String task, String pupil, int place, int made) {
        SheetMarker x = new SheetMarker();
        x.input(at("A1"));
        x.input(at("B1"));
        x.world();
        x.world();
        x.give(0, at("A1"), 6);
        x.give(1, at("A1"), 10);
        x.give(0, at("B1"), 3);
        x.give(1, at("B1"), 4);
        x.wants(at("C3"), 8);
        writes(x, 0, "C3", task);
        writes(x, 4, "C3", pupil);
        String both = pupil + " for " + task;
        due("kind of " + both, x.kind(4, at("C3")), place < 0 ? 5 : 4);
        due("place of " + both, x.slip(4, at("C3"), 0), place);
        due("what is made of " + both, x.slip(4, at("C3"), 1), made);
    }

    private static void slipSigns() {
        sentence("Promise 16: slip, signs");
        slips("=A1+B1", "=A1-B1", 3, '+');
        slips("=A1-B1", "=A1+B1", 3, '-');
        slips("=A1*B1", "=A1+B1", 3, '*');
        slips("=A1/B1", "=A1+B1", 3, '/');
        slips("=A1/B1", "=A1*B1", 3, '/');
        slips("=A1-B1", "=A1/B1", 3, '-');
        slips("=A1+B1", "=A1/B1", 3, '+');
        slips("=A1+(B1+5)", "=A1+B1*5", 6, '+');
        slips("=(A1-B1)*(2+1)", "=(A1-B1)*2", 9, 3);
        slips("=A1*(B1*5)", "=A1+B1*5", 3, '*');
        slips("=(A1*B1)+5", "=A1+B1+5", 3, '*');
        slips("=(A1+B1)*5", "=A1+B1+5", 6, '*');
        slips("=A1*B1", "=-A1-B1", -1, -1);
        slips("=(0-A1)*B1", "=-A1-B1", 4, '*');
        slips("=A1+0", "=A1+B1*0+B1", 7, -1);
        slips("=A1*2", "=A1/0", -1, -1);
        slips("=A1/0", "=A1*0", 3, '/');
        slips("=7*A1", "=7-0-A1", 4, '*');
    }

    private static void slipNumbersAndCells() {
        sentence("Promise 16: slip, numbers and cells");
        slips("=A1+4", "=A1+3", 4, 4);
        slips("=A1+4", "=A1+5", 4, 4);
        slips("=A1-1", "=A1+0", 4, -1);
        slips("=A1+9999+1", "=A1+9999", 4, 10000);
        slips("=A1*12", "=A1*0013", 4, 12);
        slips("=A1*2", "=A1*10", -1, -1);
        slips("=A1*7", "=B1*7", 1, 0);
        slips("=B1*7", "=A1*7", 1, 1);
        slips("=A1*7", "=A2*7", 1, 0);
        slips("=B1*7", "=C1*7", 1, 1);
        slips("=A1*7", "=C1*7", -1, -1);
        slips("=A1+B1", "=S(A1:A1)", 3, 1);
        slips("=A1+B1", "=S(A1:C3)", 6, at("C2"));
        slips("=B1*9", "=S(A1:B1)*9", 3, 1);
        slips("=A1*9", "=S(A1:B1)*9", 6, 0);
        slips("=S(A1:B1)*5", "=S(A1:C2)*5+B1", 12, at("B2"));
        slips("=S(A1:B1)*5", "=S(B1:B2)*5", 3, 0);
        slips("=B1*5-0", "=C3*5", -1, -1);
        slips("=C3", "=C2", 1, at("C3"));
        slips("=C3", "=D3*2", 1, at("C3"));
        slips("=M(A1,B1)*9", "=M(B1,B1)*9", 3, 0);
        slips("=A1-A1-A1", "=A1-A1-A1-1", 3, '/');
        SheetMarker x = lesson();
        writes(x, 1, "B1", "=A1*2-1");
        due("what 0", x.slip(1, at("B1"), 0), 5);
        due("what 1", x.slip(1, at("B1"), 1), '+');
        for (int bad : new int[] {-1, 2, FAR, DEEP}) {
            due("no what " + bad, x.slip(1, at("B1"), bad), -1);
        }
        for (int bad : new int[] {-1, 0, 6, FAR, DEEP}) {
            due("no pupil " + bad, x.slip(bad, at("B1"), 0), -1);
        }
        for (int bad : new int[] {-1, 0, 4, 64, FAR, DEEP}) {
            due("not wanted " + bad, x.slip(1, bad, 0), -1);
        }
        due("of an empty cell", x.slip(2, at("B1"), 0), -1);
        writes(x, 2, "B1", "=A1*2+1");
        due("of a right cell", x.slip(2, at("B1"), 0), -1);
        x.number(2, at("B1"), 9);
        due("of a typed cell", x.slip(2, at("B1"), 1), -1);
        writes(x, 2, "C1", "=B1*B1");
        due("of a carried cell", x.slip(2, at("C1"), 0), -1);
        writes(x, 2, "C1", "=B1*C1");
        due("a slip among right figures", x.slip(2, at("C1"), 0), 4);
        due("a slip among right figures", x.slip(2, at("C1"), 1), at("B1"));
    }

    /** What a pupil makes of one cell that the task names instead of another; the numbers tell all cells apart. */
    private static void misnamed(String task, String pupil, int kind) {
        SheetMarker x = new SheetMarker();
        x.world();
        x.wants(at("D4"), 1);
        for (int s = 0; s < 2; s++) {
            for (int c = 0; c < 64; c++) {
                x.number(s, c, 1000 + 13 * c);
            }
        }
        writes(x, 0, "D4", task);
        writes(x, 1, "D4", pupil);
        due(pupil + " for " + task, x.kind(1, at("D4")), kind);
        due("place", x.slip(1, at("D4"), 0), kind == 4 ? 1 : -1);
        due("what is made", x.slip(1, at("D4"), 1), kind == 4 ? at(task.substring(1)) : -1);
    }

    private static void slipAtTheEdge() {
        sentence("Promise 16: slip, at the sheet's edges");
        misnamed("=A8", "=A7", 4);
        misnamed("=A7", "=A8", 4);
        misnamed("=A1", "=A2", 4);
        misnamed("=A2", "=A1", 4);
        misnamed("=H3", "=G3", 4);
        misnamed("=G3", "=H3", 4);
        misnamed("=A3", "=B3", 4);
        misnamed("=B3", "=A3", 4);
        misnamed("=H8", "=G8", 4);
        misnamed("=H8", "=H7", 4);
        misnamed("=A2", "=H1", 5);
        misnamed("=H1", "=A2", 5);
        misnamed("=A1", "=A8", 5);
        misnamed("=A8", "=A1", 5);
        misnamed("=0", "=A8", 5);
        misnamed("=0", "=H8", 5);
        misnamed("=0", "=A1", 5);
        misnamed("=0", "=H1", 5);
        misnamed("=B2", "=A1", 5);
    }

    private static void fault() {
        sentence("Promise 17: fault");
        SheetMarker x = lesson();
        due("first of all", x.fault(1, 0), at("B1"));
        due("second", x.fault(1, 1), at("C1"));
        due("third", x.fault(1, 2), at("D1"));
        due("fourth", x.fault(1, 3), -1);
        writes(x, 1, "B1", "=A1*2-1");
        writes(x, 1, "C1", "=B1*B1");
        x.number(1, at("D1"), 72);
        due("a slip", x.fault(1, 0), at("B1"));
        due("carried is none, typed is", x.fault(1, 1), at("D1"));
        due("no more", x.fault(1, 2), -1);
        writes(x, 1, "B1", "=A1*2+1");
        due("right is none", x.fault(1, 0), at("D1"));
        due("a wrong number", x.number(1, at("D1"), 1) ? x.fault(1, 0) : 0, at("D1"));
        for (int bad : new int[] {-1, 1, FAR, DEEP}) {
            due("no i " + bad, x.fault(1, bad), -1);
        }
        for (int bad : new int[] {-1, 0, 6, FAR, DEEP}) {
            due("no pupil " + bad, x.fault(bad, 0), -1);
        }
    }

    private static void copied() {
        sentence("Promise 18: copied");
        SheetMarker x = new SheetMarker();
        x.input(0);
        for (int s = 1; s < 6; s += 2) {
            writes(x, s, "A1", "=5");
            writes(x, s, "B1", "=A1+1");
            writes(x, s, "C1", "=A1+2");
            writes(x, s, "H8", "=A1+3");
            x.number(s, at("D1"), 4);
        }
        due("first", x.copied(1, 3, 0), at("B1"));
        due("second", x.copied(3, 1, 1), at("C1"));
        due("third", x.copied(5, 1, 2), 63);
        due("inputs and numbers are none", x.copied(1, 3, 3), -1);
        writes(x, 0, "B1", "=A1+1");
        due("the task has it", x.copied(1, 3, 0), at("C1"));
        writes(x, 0, "C1", "=2+A1");
        due("the task has another text", x.copied(1, 3, 0), at("C1"));
        x.number(0, at("C1"), 2);
        due("the task has a number", x.copied(1, 3, 0), at("C1"));
        writes(x, 3, "C1", "=A1+22");
        due("a longer text", x.copied(1, 3, 0), 63);
        writes(x, 3, "C1", "=2+A1");
        due("another text of one length", x.copied(1, 3, 0), 63);
        writes(x, 0, "A2", "=A1+3");
        due("the task has it elsewhere", x.copied(1, 3, 0), 63);
        due("an empty sheet", x.copied(1, 2, 0), -1);
        due("oneself", x.copied(1, 1, 0), -1);
        for (int bad : new int[] {-1, 0, 6, FAR, DEEP}) {
            due("no pupil " + bad, x.copied(bad, 1, 0), -1);
            due("no pupil " + bad, x.copied(1, bad, 0), -1);
        }
        for (int bad : new int[] {-1, 1, FAR, DEEP}) {
            due("no i " + bad, x.copied(1, 3, bad), -1);
        }
        x.input(63);
        due("an input now", x.copied(1, 3, 0), -1);
    }

    private static void look() {
        sentence("Promise 19: look");
        SheetMarker x = new SheetMarker();
        x.number(1, 1, -1);
        writes(x, 1, "C1", "=M(A1,2)");
        for (int what = 0; what < 3; what++) {
            due("empty, what " + what, x.look(1, 0, what), what == 2 ? 1 : 0);
        }
        due("a number", x.look(1, 1, 0), 1);
        due("a number -1", x.look(1, 1, 1), -1);
        due("a number has no bytes", x.look(1, 1, 10), -1);
        due("a formula", x.look(1, 2, 0), 2);
        due("its length", x.look(1, 2, 1), 8);
        for (int i = 0; i < 8; i++) {
            due("byte " + i, x.look(1, 2, 10 + i), "=M(A1,2)".charAt(i));
        }
        for (int bad : new int[] {-1, 3, 9, 18, 50, FAR, DEEP}) {
            due("no what " + bad, x.look(1, 2, bad), -1);
        }
        for (int bad : new int[] {-1, 6, FAR, DEEP}) {
            due("no sheet " + bad, x.look(bad, 0, 0), -1);
        }
        for (int bad : new int[] {-1, 64, FAR, DEEP}) {
            due("no cell " + bad, x.look(0, bad, 0), -1);
        }
    }

    private static void lookComing() {
        sentence("Promise 19: look, what comes to a cell");
        SheetMarker x = new SheetMarker();
        writes(x, 1, "B1", "=A1");
        writes(x, 1, "C1", "=B1+B1");
        writes(x, 1, "D1", "=S(A1:C1)");
        writes(x, 1, "A2", "=S(H7:G8)");
        due("all three", x.look(1, at("A1"), 2), 3);
        due("two", x.look(1, at("B1"), 2), 2);
        due("one", x.look(1, at("C1"), 2), 1);
        due("none", x.look(1, at("D1"), 2), 0);
        due("within a rectangle", x.look(1, at("G7"), 2), 1);
        due("beside a rectangle", x.look(1, at("F7"), 2), 0);
        due("in another sheet", x.look(2, at("A1"), 2), 0);
        writes(x, 1, "A1", "=D1");
        due("a circle comes to itself", x.look(1, at("A1"), 2), 4);
        due("each of it", x.look(1, at("D1"), 2), 4);
        x.input(at("B1"));
        due("an input needs nothing", x.look(1, at("B1"), 2), 3);
        writes(x, 1, "A1", "=H8*0");
        due("an input ends the way", x.look(1, at("A1"), 2), 1);
        due("an input is needed", x.look(1, at("B1"), 2), 2);
        due("right figures don't matter here", x.wants(at("C1"), 1) ? x.look(1, at("B1"), 2) : -9, 2);
    }

    private static void count() {
        sentence("Promise 20: count");
        SheetMarker x = lesson();
        feedText(x, "=1");
        due("inputs", x.count(0), 1);
        due("wanted", x.count(1), 3);
        due("worlds", x.count(2), 2);
        due("all points", x.count(3), 117);
        due("tape", x.count(4), 20);
        due("points of B1", x.count(100 + at("B1")), 10);
        due("points of D1", x.count(100 + at("D1")), 100);
        due("points of an input", x.count(100), 0);
        due("points of H8", x.count(163), 0);
        for (int bad : new int[] {-1, 5, 99, 164, 200, FAR, DEEP}) {
            due("no what " + bad, x.count(bad), -1);
        }
    }
}
