/** The bounds of a round by all letter boxes and of its bound: sentence by sentence. */
public final class TourBoundsTest {
    private static final int NONE = RightTurns.NONE;

    /** Arcs 0, 2, 4, 6 go round by left turns, 7, 5, 3, 1 by right ones: 30 long. */
    private static final String SQUARE = "corner0 0;corner9 0;corner9 9;corner0 9;"
            + "street0 1 9;street1 2 8;street2 3 7;street3 0 6;";

    private static final String ONE = "corner 7 7;";
    private static final String TEN = "box0;box1;box2;box3;box4;box5;box6;box7;box8;box9;";

    private final Check check = new Check();

    public static void main(String[] args) {
        TourBoundsTest test = new TourBoundsTest();
        test.roundOfNone();
        test.rounds();
        test.ownCorner();
        test.passes();
        test.tenBoxes();
        test.noRound();
        test.boundOfOne();
        test.bounds();
        test.boundOfEleven();
        test.noBound();
        test.times();
        test.check.end();
    }

    private void roundOfNone() {
        check.says(0, "the least length (0, if there are no boxes but there)");
        RightTurns none = Texts.townOf(SQUARE);
        RightTurns own = Texts.townOf(SQUARE + "box2;box2;");
        for (int c = 0; c < 4; c++) {
            check.due("no box at all", none.round(c, 0), 0);
            check.due("one at 2, from " + c, own.round(c, 0), c == 2 ? 0 : 30);
        }
        check.due("one corner", Texts.townOf(ONE).round(0, 0), 0);
        check.due("one corner with a box", Texts.townOf(ONE + "box0;").round(0, 0), 0);
        check.due("no way out of it", Texts.townOf(Texts.row(2) + "box1;").round(1, 0), 0);
    }

    private void rounds() {
        check.says(25, "A ROUND");
        RightTurns x = Texts.townOf(SQUARE + "box1;");
        check.due("from next to it", x.round(0, 0), 30);
        check.due("from the other side", x.round(3, 0), 30);
        // there and back by two streets of which one bends to the right
        RightTurns y = Texts.townOf("corner0 0;corner5 9;corner9 0;street0 1 1;street1 2 2;street2 0 3;box1;");
        check.due("three by the right", y.round(0, 0), 6);
        check.due("from each", y.round(2, 0), 6);
        y.allow(0, 2, true);
        check.due("leave for one left turn makes no shorter one", y.round(0, 1), 6);
    }

    private void ownCorner() {
        check.says(0, "a box at its own CORNER counts by being there");
        RightTurns x = Texts.townOf(SQUARE + "box0;box1;");
        check.due("from 0 to 1 and back", x.round(0, 0), 30);
        check.due("from 1 to 0 and back", x.round(1, 0), 30);
        check.due("from 2 to both", x.round(2, 0), 30);
        RightTurns end = Texts.townOf(Texts.row(3) + "street0 1 4;street1 2 4;box0;");
        check.due("its own at a dead end", end.round(0, 0), 0);
        check.due("not its own: nobody comes back from there", end.round(1, 0), NONE);
    }

    private void passes() {
        check.says(0, "A ROUND of letter boxes from a CORNER and back: a RIDE that ends where it began, and passes all "
                + "boxes (ends some ARC there");
        // two triangles by the right that meet at 0: the first one ends straight ahead of the other
        RightTurns x = Texts.townOf("corner5 5;corner0 9;corner4 9;corner6 1;corner2 1;"
                + "street0 1 1;street1 2 2;street2 0 3;street0 3 4;street3 4 5;street4 0 6;box2;box4;");
        check.due("both triangles", x.round(0, 0), 21);
        check.due("from the first one it would be left in the end", x.round(1, 0), NONE);
        RightTurns other = Texts.townOf("corner5 5;corner0 9;corner4 9;corner6 1;corner2 1;"
                + "street0 1 1;street1 2 2;street2 0 3;street0 3 4;street3 4 5;street4 0 6;box4;");
        check.due("the box's triangle alone", other.round(0, 0), 15);
        x.allow(5, 0, true);
        check.due("by way of 0 twice", x.round(1, 1), 21);
        RightTurns left = Texts.townOf(SQUARE + "box3;may0 1;may1 2;may2 3;may3 0;");
        check.due("either way round", left.round(0, 0), 30);
        RightTurns two = Texts.townOf(SQUARE + "street0 1 1;box1;box2;box3;");
        check.due("home by the shorter of two", two.round(0, 0), 22);
    }

    private void tenBoxes() {
        check.says(0, "passes all boxes");
        RightTurns x = Texts.townOf(Texts.ring(TEN));
        for (int c = 0; c < 11; c++) {
            check.due("all of ten from " + c, x.round(c, 0), 11);
        }
        RightTurns one = Texts.townOf(Texts.ring("box5;"));
        for (int c = 0; c < 11; c++) {
            check.due("all round for one from " + c, one.round(c, 0), c == 5 ? 0 : 11);
        }
        x.sign(9, 10, true);
        for (int c = 0; c < 11; c++) {
            // from where the barred turn is one begins behind it and ends ahead of it
            check.due("a turn is barred at 10, from " + c, x.round(c, 1), c == 10 ? 11 : NONE);
        }
    }

    private void noRound() {
        check.says(0, "NONE: there is none");
        check.due("no street", Texts.townOf(Texts.row(2) + "box1;").round(0, 0), NONE);
        check.due("no way back", Texts.townOf(Texts.row(2) + "street0 1 1;box1;").round(0, 0), NONE);
        check.due("no way there", Texts.townOf(Texts.row(2) + "street0 1 1;one0;box0;").round(1, 0), NONE);
        check.due("one of two is not reached", Texts.townOf(SQUARE + "corner5 5;box1;box4;").round(0, 0), NONE);
        check.due("but all of them from there, if it is alone", Texts.townOf(SQUARE + "corner5 5;box4;").round(4, 0), 0);
        RightTurns x = Texts.townOf(SQUARE + "box2;");
        x.sign(3, 2, true);
        check.due("a sign against it", x.round(0, 1), NONE);
        check.due("not from where that turn is its beginning", x.round(3, 1), 30);
        check.due("as it was", x.round(0, 0), 30);
    }

    private void boundOfOne() {
        check.says(0, "0, if there is but one");
        for (int c = 0; c < 4; c++) {
            check.due("no boxes", Texts.townOf(SQUARE).bound(c, 0), 0);
        }
        check.due("one there", Texts.townOf(SQUARE + "box2;").bound(2, 0), 0);
        check.due("one corner", Texts.townOf(ONE).bound(0, 0), 0);
        check.due("with a box", Texts.townOf(ONE + "box0;").bound(0, 0), 0);
        check.due("one elsewhere is not but one", Texts.townOf(SQUARE + "box1;").bound(0, 0), 18);
    }

    private void bounds() {
        check.says(0, "BOUND: each box, and the CORNER (without boxes there: those are one), has one of the others behind "
                + "it, no two the same one, by SHORTEST, together: the least");
        RightTurns two = Texts.townOf(SQUARE + "box0;box1;");
        check.due("its own box is one with it", two.bound(0, 0), 18);
        check.due("from elsewhere: three", two.bound(2, 0), 30);
        // 0 with 3 and 1 with 2, to and fro, are less than all round
        RightTurns four = Texts.townOf(SQUARE + "box0;box1;box2;box3;");
        check.due("two by two", four.bound(0, 0), 28);
        RightTurns three = Texts.townOf(Texts.row(4) + "street0 1 1;street1 2 5;street2 3 9;box1;box2;");
        // 0 and 1, 1 and 2 would have 1 twice; 0 to 1 to 2 to 0 it is
        check.due("no two the same", three.bound(0, 0), 12);
        check.due("none itself", three.bound(1, 0), 10);
        check.says(26, "BOUND");
        check.due("not more than the round", four.bound(0, 0) <= four.round(0, 0), true);
    }

    private void boundOfEleven() {
        check.says(0, "no two the same one");
        RightTurns x = Texts.townOf(Texts.ring(TEN));
        check.due("eleven", x.bound(10, 0), 11);
        for (int c = 0; c < 10; c++) {
            check.due("ten", x.bound(c, 0), 10);
        }
        RightTurns line = Texts.townOf(Texts.row(11) + "street0 1 1;street1 2 1;street2 3 1;street3 4 1;street4 5 1;"
                + "street5 6 1;street6 7 1;street7 8 1;street8 9 1;street9 10 1;" + TEN);
        // two by two, and three of them in a ring of 1, 1 and 2
        check.due("eleven on a line", line.bound(10, 0), 12);
        check.due("ten on a line", line.bound(0, 0), 10);
    }

    private void noBound() {
        check.says(0, "0, if there is but one; NONE");
        check.due("no street", Texts.townOf(Texts.row(2) + "box1;").bound(0, 0), NONE);
        check.due("one way only", Texts.townOf(Texts.row(2) + "street0 1 1;one0;box1;").bound(0, 0), NONE);
        check.due("both ways", Texts.townOf(Texts.row(2) + "street0 1 1;box1;").bound(0, 0), 2);
        check.due("two boxes have only the one behind them", Texts.townOf("corner1 1;corner0 1;corner0 0;"
                + "street0 1 1;street0 2 1;one0;one1;box1;box2;").bound(0, 0), NONE);
        check.due("one box alone far off", Texts.townOf(SQUARE + "corner5 5;box1;box4;").bound(0, 0), NONE);
        RightTurns x = Texts.townOf("corner0 0;corner1 0;corner1 1;street0 1 5;street1 2 7;box2;");
        check.due("left", x.bound(0, 0), NONE);
        x.allow(0, 1, true);
        check.due("left, allowed", x.bound(0, 1), 24);
    }

    private void times() {
        check.says(8, "no such time (so below, \"time\")");
        RightTurns x = Texts.townOf(SQUARE + "box1;");
        check.only("round", 1, Check.ILLEGAL, time -> x.round(0, time));
        check.only("bound", 1, Check.ILLEGAL, time -> x.bound(0, time));
        check.only("round from the box", 1, Check.ILLEGAL, time -> x.round(1, time));
        check.only("bound from the box", 1, Check.ILLEGAL, time -> x.bound(1, time));
    }
}
