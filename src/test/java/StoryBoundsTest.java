import java.util.List;

/** The bounds of a told ride, of how often it breaks and of what is sure of it: sentence by sentence. */
public final class StoryBoundsTest {
    private static final int NONE = RightTurns.NONE;

    /** Arcs 0, 2, 4, 6 go round by left turns, 7, 5, 3, 1 by right ones. */
    private static final String SQUARE = "corner0 0;corner9 0;corner9 9;corner0 9;"
            + "street0 1 9;street1 2 8;street2 3 7;street3 0 6;";

    private final Check check = new Check();

    public static void main(String[] args) {
        StoryBoundsTest test = new StoryBoundsTest();
        test.told();
        test.toldTwelve();
        test.tellNoSuch();
        test.forget();
        test.fewerThanTwo();
        test.breaks();
        test.ways();
        test.breaksMost();
        test.noArc();
        test.atTime();
        test.sure();
        test.sureEach();
        test.sureMost();
        test.sureNone();
        test.check.end();
    }

    private static RightTurns tellAll(RightTurns x, int... corners) {
        for (int corner : corners) {
            x.tell(corner);
        }
        return x;
    }

    private static RightTurns toldOf(String text, int... corners) {
        return tellAll(Texts.townOf(text), corners);
    }

    private void told() {
        check.says(30, "A CORNER comes to the TOLD RIDE: how many there are");
        RightTurns x = Texts.townOf(Texts.row(16));
        for (int i = 1; i <= 12; i++) {
            check.due("corner " + i, x.tell(i % 2 == 0 ? 0 : 15), i);
            check.due("as many", x.count(0), i);
        }
        RightTurns same = Texts.townOf("corner0 0;");
        check.due("the same one", same.tell(0), 1);
        check.due("again", same.tell(0), 2);
    }

    private void toldTwelve() {
        check.says(30, "-1: there are 12");
        RightTurns x = toldOf(SQUARE, 0, 3, 2, 1, 0, 3, 2, 1, 0, 3, 2);
        check.due("11", x.count(0), 11);
        check.due("the twelfth", x.tell(1), 12);
        check.due("no thirteenth", x.tell(0), -1);
        check.due("whichever", x.tell(3), -1);
        check.due("twelve there are", x.count(0), 12);
        check.due("as they were", x.breaks(0, 0), 0);
        check.due("by one way", x.breaks(0, 1), 1);
        check.says(0, "CORNERS one by one, 12 at most");
        x.forget();
        for (int i = 1; i <= 12; i++) {
            check.due("twelve anew", x.tell(0), i);
        }
        check.due("and no more", x.tell(0), -1);
    }

    private void tellNoSuch() {
        check.says(13, "IndexOutOfBoundsException: no such CORNER (so below, ahead of others)");
        check.only("without a town", 0, Check.OUT, new RightTurns()::tell);
        check.only("one corner", 1, Check.OUT, Texts.townOf("corner0 0;")::tell);
        check.only("sixteen", 16, Check.OUT, Texts.townOf(Texts.row(16))::tell);
        RightTurns x = toldOf(SQUARE, 0, 1);
        check.throwsOut("beyond", () -> x.tell(4));
        check.throwsOut("below", () -> x.tell(-1));
        check.due("none of these came to it", x.count(0), 2);
        RightTurns full = toldOf(SQUARE, 0, 1, 0, 1, 0, 1, 0, 1, 0, 1, 0, 1);
        check.throwsOut("though there are 12", () -> full.tell(4));
        check.throwsOut("below, though there are 12", () -> full.tell(-1));
    }

    private void forget() {
        check.says(31, "It goes: how many");
        check.due("of a new object", new RightTurns().forget(), 0);
        RightTurns x = Texts.townOf(SQUARE);
        check.due("none", x.forget(), 0);
        x.tell(0);
        check.due("one", x.forget(), 1);
        check.due("it is gone", x.count(0), 0);
        tellAll(x, 0, 1, 2, 3, 0, 1, 2, 3, 0, 1, 2, 3);
        check.due("twelve", x.forget(), 12);
        check.due("they are gone", x.count(0), 0);
        check.due("nothing breaks", x.breaks(0, 0) + x.breaks(0, 1), 0);
        check.due("nothing is left to go", x.forget(), 0);
    }

    private void fewerThanTwo() {
        check.says(32, "NONE (0, 0 of fewer than two CORNERS)");
        for (int what = 0; what < 2; what++) {
            check.due("of a new object", new RightTurns().breaks(0, what), 0);
            check.due("of none", Texts.townOf(SQUARE).breaks(0, what), 0);
            check.due("of one", toldOf(SQUARE, 3).breaks(0, what), 0);
            check.due("of one alone in the town", toldOf("corner0 0;", 0).breaks(0, what), 0);
            check.due("of two without an arc", toldOf(SQUARE, 0, 2).breaks(0, what), NONE);
            check.due("of two", toldOf(SQUARE, 0, 1).breaks(0, what), what);
        }
        check.only("what", 2, Check.ILLEGAL, what -> Texts.townOf(SQUARE).breaks(0, what));
        check.only("what of one", 2, Check.ILLEGAL, what -> toldOf(SQUARE, 1).breaks(0, what));
        check.only("what of two without an arc", 2, Check.ILLEGAL, what -> toldOf(SQUARE, 0, 2).breaks(0, what));
    }

    private void breaks() {
        check.says(32, "BREAKS: 0 how few, 1 in how many ways");
        check.due("right", toldOf(SQUARE, 0, 3, 2).breaks(0, 0), 0);
        check.due("left", toldOf(SQUARE, 0, 1, 2).breaks(0, 0), 1);
        check.due("back", toldOf(SQUARE, 0, 1, 0).breaks(0, 0), 1);
        check.due("left and back and right", toldOf(SQUARE, 0, 1, 2, 1, 0).breaks(0, 0), 2);
        check.says(0, "the fewest TURNS in it that may not be ridden then, over all STREETS it can have been");
        RightTurns x = toldOf(SQUARE + "street0 1 9;may4 1;", 0, 1, 2);
        check.due("by the other street none", x.breaks(0, 0), 0);
        check.due("so in one way", x.breaks(0, 1), 1);
        x.allow(0, 1, true);
        check.due("by both none", x.breaks(1, 1), 2);
        x.sign(4, 1, true);
        check.due("by one again", x.breaks(2, 1), 1);
        x.sign(0, 1, true);
        check.due("by each one", x.breaks(3, 0), 1);
        check.due("in two ways", x.breaks(3, 1), 2);
    }

    private void ways() {
        check.says(0, "in how many ways (rows of ARCS) it is so few");
        RightTurns x = Texts.townOf(Texts.row(2) + "street0 1 1;".repeat(24));
        long ways = 1;
        x.tell(0);
        for (int i = 1; i < 12; i++) {
            x.tell(i % 2);
            ways *= 24;
            check.due("all turns are back", x.breaks(0, 0), i - 1);
            check.due("24 each time", x.breaks(0, 1), ways);
        }
        check.due("more than 32 bits hold", x.breaks(0, 1), 1521681143169024L);
        RightTurns oneWay = toldOf(Texts.row(2) + "street0 1 1;street0 1 1;street1 0 1;one0;one2;", 0, 1, 0);
        check.due("by arcs that there are: two there, two back", oneWay.breaks(0, 1), 4);
    }

    private void breaksMost() {
        check.says(0, "A TOLD RIDE: CORNERS one by one, 12 at most, by STREETS between them that aren't told (each way any "
                + "that there is)");
        RightTurns x = toldOf(SQUARE, 0, 1, 0, 1, 0, 1, 0, 1, 0, 1, 0, 1);
        check.due("ten turns, all back", x.breaks(0, 0), 10);
        check.due("one way", x.breaks(0, 1), 1);
        RightTurns y = toldOf(SQUARE, 0, 3, 2, 1, 0, 3, 2, 1, 0, 3, 2, 1);
        check.due("three times round by the right", y.breaks(0, 0), 0);
    }

    private void noArc() {
        check.says(0, "NONE: between two of them there is no ARC");
        List<int[]> rides = List.of(new int[] {0, 2}, new int[] {0, 0}, new int[] {0, 2, 1}, new int[] {0, 1, 3},
                new int[] {0, 1, 1, 2}, new int[] {0, 1, 2, 3, 0, 1, 2, 3, 0, 1, 2, 0});
        for (int[] ride : rides) {
            RightTurns x = toldOf(SQUARE, ride);
            check.due("how few", x.breaks(0, 0), NONE);
            check.due("in how many ways", x.breaks(0, 1), NONE);
            check.due("nothing is sure", x.sure(0, 0), NONE);
        }
        RightTurns oneWay = toldOf(SQUARE + "one0;", 1, 0);
        check.due("against one way", oneWay.breaks(0, 0), NONE);
        check.due("along it", toldOf(SQUARE + "one0;", 0, 1).breaks(0, 0), 0);
        check.due("no streets at all", toldOf(Texts.row(2), 0, 1).breaks(0, 1), NONE);
        check.due("one corner, twice", toldOf("corner0 0;", 0, 0).breaks(0, 0), NONE);
    }

    private void atTime() {
        check.says(0, "By a town at a time it BREAKS");
        RightTurns x = toldOf(SQUARE, 0, 1, 2);
        x.allow(0, 1, true);
        x.sign(0, 1, true);
        int[] due = {1, 0, 1};
        for (int time = 0; time < 3; time++) {
            check.due("at " + time, x.breaks(time, 0), due[time]);
            check.due("sure at " + time, x.sure(time, 0), due[time] == 1 ? 1 : NONE);
        }
        check.throwsIllegal("no time 3", () -> x.breaks(3, 0));
        check.throwsIllegal("none below 0", () -> x.breaks(-1, 1));
        check.throwsIllegal("no time 3 to be sure of", () -> x.sure(3, 0));
        RightTurns none = Texts.townOf(SQUARE);
        check.throwsIllegal("nor without a told ride", () -> none.breaks(1, 0));
        check.throwsIllegal("nothing to be sure of", () -> none.sure(1, 0));
    }

    private void sure() {
        check.says(34, "The k-th SURE pair: 100 times S, and T");
        RightTurns x = toldOf(SQUARE, 2, 3, 0, 1, 2);
        int[] due = {1, 203, 300};
        for (int k = 0; k < 3; k++) {
            check.due("pair " + k, x.sure(0, k), due[k]);
        }
        check.due("the last street", toldOf(Texts.row(2) + "street0 1 1;one0;" + "street1 0 1;one1;", 0, 1, 0).sure(0, 0), 1);
        RightTurns last = toldOf("corner0 0;corner1 0;corner1 1;" + "street0 1 1;".repeat(22) + "street1 2 1;street0 2 1;", 1, 2, 0);
        check.due("22 into 23", last.sure(0, 0), 2223);
    }

    private void sureEach() {
        check.says(0, "SURE: pairs of STREETS, S then T, a TURN from S into T of which breaks in each of the fewest ways "
                + "of the TOLD RIDE, by S, then T");
        RightTurns x = toldOf(SQUARE + "street0 1 9;", 0, 1, 2, 3);
        check.due("not by the one of two streets", x.sure(0, 0), 102);
        check.due("nor the other", x.sure(0, 1), NONE);
        x.sign(4, 1, true);
        check.due("a sign there changes nothing", x.sure(1, 0), 102);
        x.allow(0, 1, true);
        check.due("now one of the ways is fewer, and breaks there alone", x.sure(2, 0), 102);
        check.due("and no other", x.sure(2, 1), NONE);
        check.due("the fewest way is by the greater arc", toldOf(SQUARE + "street0 1 9;may4 1;", 3, 0, 1, 2).sure(0, 0), 304);
        check.due("the last arc is 0", toldOf(SQUARE, 3, 0, 1).sure(0, 0), 300);
        RightTurns twice = toldOf(SQUARE, 0, 1, 2, 1, 0, 1, 2);
        // 0 into 1 twice, back on 1 and back on 0
        check.due("back on 0 is 0 into 0", twice.sure(0, 0), 0);
        check.due("twice as once", twice.sure(0, 1), 1);
        check.due("back on 1", twice.sure(0, 2), 101);
        check.due("1 into 0 may be ridden", twice.sure(0, 3), NONE);
    }

    private void sureMost() {
        check.says(0, "by S, then T");
        // all round by the left: ten left turns of eleven streets
        RightTurns x = toldOf(Texts.ring(""), 10, 9, 8, 7, 6, 5, 4, 3, 2, 1, 0, 10);
        check.due("ten", x.breaks(0, 0), 10);
        check.due("0 into 10", x.sure(0, 0), 10);
        for (int k = 1; k < 10; k++) {
            check.due("pair " + k, x.sure(0, k), 100 * k + k - 1);
        }
        check.due("no eleventh", x.sure(0, 10), NONE);
        // another one of ten on the same object: back at each corner but the last
        x.forget();
        tellAll(x, 0, 1, 0, 10, 0, 10, 9, 10, 9, 8, 9, 8);
        int[] due = {0, 10, 808, 908, 909, 1009, 1010};
        check.due("some again", x.breaks(0, 0), 10);
        for (int k = 0; k < due.length; k++) {
            check.due("another pair " + k, x.sure(0, k), due[k]);
        }
        check.due("no more of them", x.sure(0, due.length), NONE);
    }

    private void sureNone() {
        check.says(34, "NONE: there are not so many");
        RightTurns x = toldOf(SQUARE, 2, 3, 0, 1, 2);
        check.only("k of three", 3, "-1", k -> x.sure(0, k));
        RightTurns none = Texts.townOf(SQUARE);
        check.only("k without a told ride", 0, "-1", k -> none.sure(0, k));
        RightTurns one = toldOf(SQUARE, 0);
        check.only("k of one corner", 0, "-1", k -> one.sure(0, k));
        RightTurns two = toldOf(SQUARE, 0, 1);
        check.only("k of two corners", 0, "-1", k -> two.sure(0, k));
        RightTurns right = toldOf(SQUARE, 0, 3, 2, 1);
        check.only("k of nothing that breaks", 0, "-1", k -> right.sure(0, k));
        RightTurns apart = toldOf(SQUARE, 0, 1, 2, 0);
        check.only("k without an arc", 0, "-1", k -> apart.sure(0, k));
        check.due("of a new object", new RightTurns().sure(0, 0), NONE);
    }
}
