/** Sentences of the document that the other tests of single answers pass over, and the run that README.md shows. */
public final class SentenceTest extends Answers {
    public static void main(String[] args) {
        anyNumberOfTimes();
        tapeLasts();
        inputsOfAllSheets();
        inputKeepsWhatIsInIt();
        newWorldIsNought();
        errorInThatWorld();
        rightFiguresOfTheTask();
        carriedOnTheWay();
        carriedAmongErrors();
        firstThatHolds();
        slipIntoACircle();
        oneText();
        comingThroughWanted();
        pointsAnew();
        totalFromFirstToLast();
        readme();
        end();
    }

    /** A1 is an input, 4 and 10 in two worlds; B1 and C1 are wanted, B1 twice A1 and 1 more, C1 5 more than that. */
    private static SheetMarker lesson() {
        SheetMarker x = new SheetMarker();
        x.input(at("A1"));
        x.world();
        x.world();
        x.give(0, at("A1"), 4);
        x.give(1, at("A1"), 10);
        x.wants(at("B1"), 10);
        x.wants(at("C1"), 20);
        writes(x, 0, "B1", "=A1*2+1");
        writes(x, 0, "C1", "=B1+5");
        return x;
    }

    private static void reckons(String text, long value) {
        SheetMarker x = new SheetMarker();
        x.world();
        writes(x, 1, "H8", text);
        due("value of " + text, x.value(1, 63, 0), value);
        due("error of " + text, x.error(1, 63, 0), 0);
    }

    private static void anyNumberOfTimes() {
        sentence("(Braces mean: any number of times)");
        for (int times = 0; times < 20; times++) {
            reckons("=1" + "+1".repeat(times), 1 + times);
            reckons("=1" + "-1".repeat(times), 1 - times);
            reckons("=2" + "*2".repeat(times), 2L << times);
            reckons("=9" + "/1".repeat(times), 9);
            reckons("=1" + "/2".repeat(times), times == 0 ? 1 : 0);
        }
        for (int times = 0; times < 10; times++) {
            reckons("=0" + "+1*2".repeat(times / 2) + "-4/2".repeat(times / 2), 0);
            reckons("=7" + "*3/3".repeat(times), 7);
            reckons("=7" + "+3-3".repeat(times), 7);
        }
        reckons("=(" + "2*".repeat(7) + "2)+M(" + "1+".repeat(5) + "1,3*4/5)", 256 + 6);
    }

    private static void tapeLasts() {
        sentence("Twenty bytes come behind the tape");
        SheetMarker x = new SheetMarker();
        due("20 bytes", x.feed(word("=11+", 0), word("22+3", 0), word("3+44", 0), word("+55+", 0), word("66+7", 0)), 20);
        due("a number", x.number(1, 8, 3), true);
        due("cleared", x.clear(1, 8), true);
        due("an input", x.input(0), true);
        due("wanted", x.wants(1, 5), true);
        due("a world", x.world(), 0);
        due("a gift", x.give(0, 0, 5), true);
        due("what is asked", x.value(1, 1, 0) + x.points(1, -1) + x.look(1, 1, 2) + x.right(1, 1, 0), 0);
        due("20 bytes still", x.count(4), 20);
        due("40 bytes", x.feed(word("7+88", 0), 0, 0, 0, 0), 40);
        due("24 of them", x.formula(1, 1, 24), 0);
        due("their value", x.value(1, 1, 0), 11 + 22 + 33 + 44 + 55 + 66 + 77 + 88);
        due("the empty tape", x.count(4), 0);
        due("another's number", x.number(1, 8, 3) ? x.count(4) : -9, 0);
    }

    private static void inputsOfAllSheets() {
        sentence("INPUTS are CELLS, the same in all SHEETS");
        SheetMarker x = new SheetMarker();
        x.world();
        for (int s = 0; s < 6; s++) {
            writes(x, s, "D4", "=E4+" + s);
            writes(x, s, "E4", "=D4");
            due("a circle in " + s, x.error(s, at("D4"), 0), 1);
        }
        x.input(at("E4"));
        x.give(0, at("E4"), 70);
        for (int s = 0; s < 6; s++) {
            due("an input in " + s, x.value(s, at("E4"), 0), 70);
            due("what needs it in " + s, x.value(s, at("D4"), 0), 70 + s);
            due("it needs nothing in " + s, x.look(s, at("D4"), 2), 0);
            due("it is needed in " + s, x.look(s, at("E4"), 2), 1);
        }
        due("not copied", x.copied(1, 5, 0), -1);
    }

    private static void inputKeepsWhatIsInIt() {
        sentence("of an INPUT what the WORLD gives, whatever is in it: that stays");
        SheetMarker x = new SheetMarker();
        x.world();
        x.number(1, 20, 77);
        write(x, 2, 20, "=H8+1");
        due("an input", x.input(20), true);
        due("its number is there", x.look(1, 20, 1), 77);
        due("its formula is there", x.look(2, 20, 1), 5);
        due("and the formula's bytes", x.look(2, 20, 11), 'H');
        due("nothing is there", x.look(3, 20, 0), 0);
        due("a number later", x.number(3, 20, -1) ? x.look(3, 20, 0) : -9, 1);
        due("a formula later", write(x, 1, 20, "=1") == 0 ? x.look(1, 20, 0) : -9, 2);
        due("nothing later", x.clear(2, 20) ? x.look(2, 20, 0) : -9, 0);
        for (int s = 0; s < 6; s++) {
            due("the value in " + s, x.value(s, 20, 0), 0);
        }
    }

    private static void newWorldIsNought() {
        sentence("WORLDS 0 to 5 each give a number (0 at first)");
        SheetMarker x = new SheetMarker();
        x.input(63);
        for (int w = 0; w < 6; w++) {
            due("a world", x.world(), w);
            due("0 at first", x.value(1, 63, w), 0);
            due("a gift", x.give(w, 63, 100 + w), true);
        }
        for (int w = 0; w < 6; w++) {
            due("what it gives", x.value(1, 63, w), 100 + w);
            x.input(62);
            due("0 to a later input", x.value(1, 62, w), 0);
        }
    }

    private static void errorInThatWorld() {
        sentence("each other WANTED CELL has THE TASK's VALUE (or ERROR) in that WORLD");
        SheetMarker x = lesson();
        x.number(1, at("B1"), 1);
        writes(x, 1, "C1", "=B1+1");
        writes(x, 0, "B1", "=6/(A1-4)");
        due("an error in the first", x.rightError(1, at("C1"), 0), 2);
        due("with it no value", x.right(1, at("C1"), 0), 0);
        due("none in the last", x.rightError(1, at("C1"), 1), 0);
        due("a value in the last", x.right(1, at("C1"), 1), 2);
        writes(x, 0, "B1", "=6/(A1-10)");
        due("none in the first", x.rightError(1, at("C1"), 0), 0);
        due("a value in the first", x.right(1, at("C1"), 0), 0);
        due("an error in the last", x.rightError(1, at("C1"), 1), 2);
        due("its own value in the last", x.value(1, at("C1"), 1), 2);
    }

    private static void rightFiguresOfTheTask() {
        sentence("WITH RIGHT FIGURES a SHEET's CELL is reckoned, THE TASK's, too");
        SheetMarker x = lesson();
        due("the task's", x.right(0, at("C1"), 1), 26);
        writes(x, 0, "B1", "=C1");
        writes(x, 0, "C1", "=1/0+B1");
        due("a circle", x.error(0, at("C1"), 0), 1);
        due("what is met ahead of B1's circle", x.rightError(0, at("C1"), 0), 2);
        due("C1's circle", x.rightError(0, at("B1"), 0), 1);
        writes(x, 0, "C1", "=9*(B1+1/0)");
        due("B1's circle is met first", x.rightError(0, at("C1"), 0), 1);
        writes(x, 0, "C1", "=D1");
        writes(x, 0, "D1", "=1/0+C1");
        due("back to itself through one that is not wanted", x.rightError(0, at("C1"), 0), 1);
        due("that one's own", x.rightError(0, at("D1"), 0), 2);
    }

    private static void carriedOnTheWay() {
        sentence("3 CARRIED: named on the way");
        SheetMarker x = lesson();
        x.number(1, at("B1"), 3);
        writes(x, 1, "C1", "=D1");
        writes(x, 1, "D1", "=E1+2");
        writes(x, 1, "E1", "=B1+3");
        due("through two that are not wanted", x.kind(1, at("C1")), 3);
        due("no fault", x.fault(1, 1), -1);
        writes(x, 1, "C1", "=S(B1:B1)+5");
        due("in a rectangle", x.kind(1, at("C1")), 3);
        writes(x, 1, "C1", "=D1");
        x.wants(at("E1"), 3);
        due("one that is wanted, and empty in the task", x.right(1, at("C1"), 0), 2);
        due("now it is wrong", x.kind(1, at("C1")), 5);
        writes(x, 0, "E1", "=B1+3");
        due("carried again", x.kind(1, at("C1")), 3);
        due("and so is that one", x.kind(1, at("E1")), 3);
    }

    private static void carriedAmongErrors() {
        sentence("3 CARRIED: ALIKE to THE TASK in all WORLDS, among errors");
        SheetMarker x = lesson();
        for (String wrong : new String[] {"=1/0", "=B1", "=9999*9999*9999*9999", "=C1"}) {
            writes(x, 1, "B1", wrong);
            writes(x, 1, "C1", "=B1+5");
            due("B1 is " + wrong, x.error(1, at("C1"), 0) > 0, true);
            due("B1 is " + wrong, x.kind(1, at("C1")), 3);
            due("all points", x.points(1, at("C1")), 20);
        }
        writes(x, 0, "B1", "=1/0");
        x.number(1, at("B1"), 5);
        due("the task's error, not the pupil's", x.kind(1, at("C1")), 3);
        due("its own has none", x.error(1, at("C1"), 0), 0);
        writes(x, 1, "C1", "=2/0");
        due("the task's error without B1", x.kind(1, at("C1")), 1);
        writes(x, 0, "C1", "=B1+B1/0");
        writes(x, 0, "B1", "=A1");
        writes(x, 1, "B1", "=B1");
        writes(x, 1, "C1", "=B1/0");
        due("by 0 with right figures, a circle without", x.kind(1, at("C1")), 3);
    }

    private static void firstThatHolds() {
        sentence("The KIND, the first that holds");
        SheetMarker x = lesson();
        writes(x, 1, "B1", "=A1*2");
        writes(x, 1, "C1", "=B1+6");
        due("one slip from right with right figures", x.right(1, at("C1"), 0), 15);
        due("but right", x.kind(1, at("C1")), 1);
        due("all points", x.points(1, at("C1")), 20);
        due("no slip", x.slip(1, at("C1"), 0), -1);
        due("no second fault", x.fault(1, 1), -1);
        writes(x, 1, "C1", "=M(B1,0)+M(1,2)+M(1,2)+M(1,2)");
        due("far from right with right figures", x.right(1, at("C1"), 1), 27);
        due("but right", x.kind(1, at("C1")), 1);
        writes(x, 1, "C1", "=B1+5+0");
        due("carried, with changes that leave it so", x.kind(1, at("C1")), 3);
        due("no slip", x.slip(1, at("C1"), 1), -1);
        writes(x, 1, "B1", "=A1+A1+1");
        due("right and carried", x.kind(1, at("C1")), 1);
        x.clear(0, at("C1"));
        writes(x, 1, "C1", "=B1+5");
        due("empty in the task, the value is another", x.kind(1, at("C1")), 5);
        writes(x, 1, "C1", "=B1-B1");
        due("empty in the task, the value is 0", x.kind(1, at("C1")), 1);
        x.clear(1, at("C1"));
        due("empty in both", x.kind(1, at("C1")), 0);
        x.number(0, at("C1"), 14);
        writes(x, 1, "C1", "=14");
        due("a formula is right, not typed", x.kind(1, at("C1")), 1);
        x.number(1, at("C1"), 14);
        due("a number is typed, not right", x.kind(1, at("C1")), 2);
        x.number(1, at("C1"), 15);
        due("a number is wrong, no slip", x.kind(1, at("C1")), 5);
    }

    private static void slipIntoACircle() {
        sentence("4 SLIP: so with one CHANGE, by what it needs then");
        SheetMarker x = lesson();
        writes(x, 1, "C1", "=D2+5");
        writes(x, 1, "D1", "=C1");
        due("naming what comes back is not right", x.kind(1, at("C1")), 5);
        writes(x, 0, "C1", "=C1");
        due("but it is, where the task has a circle", x.kind(1, at("C1")), 4);
        due("the cell above, ahead of the one below", x.slip(1, at("C1"), 1), at("D1"));
        writes(x, 1, "C1", "=1/0+D2");
        due("a circle is ahead of what is met", x.slip(1, at("C1"), 1), at("D1"));
        due("its place", x.slip(1, at("C1"), 0), 5);
        writes(x, 0, "C1", "=B1+5");
        writes(x, 1, "C1", "=C1+5");
        due("out of a circle", x.slip(1, at("C1"), 1), at("B1"));
        writes(x, 0, "C1", "=-7/2");
        writes(x, 1, "C1", "=-7*2");
        due("rounded down behind a change, too", x.slip(1, at("C1"), 1), '/');
        writes(x, 0, "C1", "=1000*1000*1000*999");
        writes(x, 1, "C1", "=1000*1000+1000*999");
        due("a great figure, not too great", x.slip(1, at("C1"), 0), 10);
        writes(x, 0, "C1", "=9999*9999*9999*9999");
        due("none too great", x.kind(1, at("C1")), 5);
        writes(x, 1, "C1", "=(1000*1000+1000*1000)*999");
        due("too great by one change", x.slip(1, at("C1"), 0), 11);
        due("the product of both", x.slip(1, at("C1"), 1), '*');
    }

    private static void oneText() {
        sentence("COPIED: FORMULAS of one TEXT");
        String[] texts = {"=A1+01", "=A1+1", "=1+A1", "=01+A1", "=(A1)+1", "=A1--1", "=M(A1,A1)+1", "=S(A1:A1)+1"};
        for (String one : texts) {
            for (String other : texts) {
                SheetMarker x = new SheetMarker();
                writes(x, 2, "C3", one);
                writes(x, 4, "C3", other);
                due(one + " and " + other, x.copied(2, 4, 0), one.equals(other) ? at("C3") : -1);
                writes(x, 4, "C3", one);
                writes(x, 0, "C3", other);
                due(one + " beside the task's " + other, x.copied(2, 4, 0), one.equals(other) ? -1 : at("C3"));
            }
        }
    }

    private static void comingThroughWanted() {
        sentence("how many CELLS come to it by NEEDING, WANTED ones or not");
        SheetMarker x = lesson();
        writes(x, 1, "B1", "=A1");
        writes(x, 1, "C1", "=B1");
        writes(x, 1, "D1", "=C1");
        writes(x, 1, "E1", "=B1");
        x.wants(at("D1"), 1);
        due("come to an input", x.look(1, at("A1"), 2), 4);
        due("come to a wanted one", x.look(1, at("B1"), 2), 3);
        due("come to the next", x.look(1, at("C1"), 2), 1);
        due("come to the last", x.look(1, at("D1"), 2), 0);
    }

    private static void pointsAnew() {
        sentence("CELL c is WANTED with POINTS (anew at any time)");
        SheetMarker x = lesson();
        writes(x, 1, "B1", "=A1+A1+1");
        due("points", x.points(1, at("B1")), 10);
        due("anew", x.wants(at("B1"), 3), true);
        due("points", x.points(1, at("B1")), 3);
        due("fewer than before", x.count(3), 23);
        due("as many are wanted", x.count(1), 2);
        due("the total", x.points(1, -1), 3);
        due("more than before", x.wants(at("B1"), 100) ? x.points(1, -1) : -9, 100);
        due("a wanted one later", x.wants(at("D1"), 7), true);
        writes(x, 1, "D1", "=0");
        due("the total", x.points(1, -1), 107);
    }

    private static void totalFromFirstToLast() {
        sentence("THE TOTAL is their sum: the first CELL's and the last's, too");
        SheetMarker x = new SheetMarker();
        x.world();
        x.wants(0, 30);
        x.wants(63, 100);
        writes(x, 1, "A1", "=0");
        writes(x, 1, "H8", "=1");
        x.number(2, 63, 0);
        due("right and a slip", x.points(1, -1), 80);
        due("empty and typed", x.points(2, -1), 25);
        due("all points", x.count(3), 130);
        due("the last fault", x.fault(1, 0), 63);
        due("the first fault", x.fault(2, 0), 0);
    }

    private static void readme() {
        sentence("The run that README.md shows");
        SheetMarker marker = new SheetMarker();
        due("A1 is an input", marker.input(0), true);
        due("B1 is wanted", marker.wants(1, 10), true);
        due("world 0", marker.world(), 0);
        due("A1 is 5 there", marker.give(0, 0, 5), true);
        due("20 bytes", marker.feed(0x3D41312A, 0x322B3120, 0, 0, 0), 20);
        due("more than the tape has", marker.formula(0, 1, 21), -1);
        due("the tape stays", marker.count(4), 20);
        due("the first 7", marker.formula(0, 1, 7), 0);
        due("the tape is empty", marker.count(4), 0);
        due("the task's B1", marker.value(0, 1, 0), 11);
        due("20 bytes", marker.feed(0x3D41312A, 0x322D3120, 0, 0, 0), 20);
        due("pupil 1's B1, a byte too far", marker.formula(1, 1, 8), 107);
        due("the tape is empty", marker.count(4), 0);
        due("20 bytes", marker.feed(0x3D41312A, 0x322D3120, 0, 0, 0), 20);
        due("pupil 1's B1", marker.formula(1, 1, 7), 0);
        due("a slip", marker.kind(1, 1), 4);
        due("its place", marker.slip(1, 1, 0), 5);
        due("what is made of it", marker.slip(1, 1, 1), '+');
        due("half the points", marker.points(1, 1), 5);
        due("pupil 2 types", marker.number(2, 1, 11), true);
        due("typed in", marker.kind(2, 1), 2);
        due("a quarter, rounded down", marker.points(2, SheetMarker.NONE), 2);
    }
}
