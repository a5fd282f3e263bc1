/** The bounds of left turns, candidates, what opens a town, exchanges and gains: sentence by sentence. */
public final class LeftBoundsTest {
    private static final int NONE = RightTurns.NONE;

    /** A left turn from street 0 into 1. */
    private static final String HOOK = "corner0 0;corner1 0;corner1 1;street0 1 5;street1 2 7;";

    private static final String ONE = "corner 7 7;";

    /** Corner 0 below, six dead ends above it: a turn from a street into one of a greater number is left, 15 in all. */
    private static final String FAN = "corner50 0;corner0 9;corner20 9;corner40 9;corner60 9;corner80 9;corner99 9;"
            + "street0 1 5;street0 2 5;street0 3 5;street0 4 5;street0 5 5;street0 6 5;";

    /**
     * Nine streets from the middle, 0, to the west, 1; street 9 to the north, 2, and 10 to the east, 3, both somewhat above.
     * Left are all of the nine into 9 and into 10 (0 to 17), and 9 into 10 (18).
     */
    private static final String NINE = "corner50 0;corner0 9;corner50 9;corner99 9;" + "street0 1 5;".repeat(9)
            + "street0 2 5;street0 3 5;may0 9;may0 10;may1 9;";

    /** A left turn from 0 into 1 leads to two corners, one from 3 into 4 to one. */
    private static final String TWO_HOOKS = "corner0 0;corner1 0;corner1 1;corner1 2;corner50 50;corner51 50;corner51 51;"
            + "street0 1 5;street1 2 5;street2 3 5;street4 5 5;street5 6 5;";

    /** The same with left turns from 2 into 0 and from 4 into 3. */
    private static final String HOOKS_MIRRORED = "corner0 0;corner1 0;corner1 1;corner1 2;corner50 50;corner51 50;corner51 51;"
            + "street1 2 5;street2 3 5;street0 1 5;street5 6 5;street4 5 5;";

    private final Check check = new Check();

    public static void main(String[] args) {
        LeftBoundsTest test = new LeftBoundsTest();
        test.leftTurns();
        test.leftNone();
        test.mostLeftTurns();
        test.candidates();
        test.fourteen();
        test.fewest();
        test.fewestFourteen();
        test.leastBits();
        test.fewestNone();
        test.cheapest();
        test.cheapestLeast();
        test.cheapestNone();
        test.exchange();
        test.exchangeFirst();
        test.exchangeNone();
        test.exchangeFourteen();
        test.gain();
        test.gainMostRides();
        test.gainNone();
        test.gainFourteen();
        test.check.end();
    }

    private void leftTurns() {
        check.says(0, "LEFT TURNS: all pairs of STREETS S and T of which some TURN from S into T is LEFT, numbered by S, "
                + "then T");
        check.due("no streets", Texts.townOf(ONE).told(4), 0);
        check.due("no turn left", Texts.townOf(Texts.row(3) + "street0 1 1;street1 2 1;").told(4), 0);
        check.due("one", Texts.townOf(HOOK).told(4), 1);
        check.due("none, if it is one way the other way", Texts.townOf("corner0 0;corner1 0;corner1 1;"
                + "street1 0 5;street1 2 7;one0;").told(4), 0);
        check.due("none, if one must come against one way", Texts.townOf("corner0 0;corner1 0;corner1 1;"
                + "street0 1 5;street2 1 7;one1;").told(4), 0);
        check.says(20, "The k-th LEFT TURN: 100 times S, and T");
        RightTurns x = Texts.townOf(FAN);
        int k = 0;
        for (int s = 0; s < 6; s++) {
            for (int t = s + 1; t < 6; t++) {
                check.due("left " + k, x.left(k), 100 * s + t);
                k++;
            }
        }
        check.due("fifteen", x.told(4), k);
    }

    private void leftNone() {
        check.says(20, "NONE: none such");
        RightTurns x = Texts.townOf(FAN);
        check.only("k of fifteen", 15, "-1", x::left);
        RightTurns none = Texts.townOf(ONE);
        check.only("k of none", 0, "-1", none::left);
        RightTurns one = Texts.townOf(HOOK);
        check.only("k of one", 1, "-1", one::left);
        check.due("the only one", one.left(0), 1);
        x.allow(0, 1, true);
        x.sign(0, 2, true);
        check.due("what is allowed or has a sign is one, too", x.told(4), 15);
        check.due("as it was numbered", x.left(1), 2);
    }

    private void mostLeftTurns() {
        check.says(0, "numbered by S, then T");
        // 24 streets between a corner and 15 others above it: of two that go to unlike ones one turn is left
        StringBuilder text = new StringBuilder("corner7 0;");
        for (int i = 0; i < 15; i++) {
            text.append("corner").append(i).append(" 9;");
        }
        for (int i = 0; i < 24; i++) {
            text.append("street0 ").append(i % 15 + 1).append(" 1;");
        }
        RightTurns x = Texts.townOf(text.toString());
        check.due("276 less the nine pairs to the same", x.told(4), 267);
        check.due("the last one", x.left(266), 2314);
        check.due("beyond it", x.left(267), NONE);
        check.due("14 count", x.candidates(0), 14);
    }

    private void candidates() {
        check.says(21, "CANDIDATES: how many (14 at most)");
        check.due("without a town", new RightTurns().candidates(0), 0);
        check.due("without streets", Texts.townOf(ONE).candidates(0), 0);
        check.due("one", Texts.townOf(HOOK).candidates(0), 1);
        check.due("14 of 15", Texts.townOf(FAN).candidates(0), 14);
        check.due("14 of 14", Texts.townOf(FAN + "may0 1;").candidates(0), 14);
        check.due("13 of 13", Texts.townOf(FAN + "may0 1;no0 2;").candidates(0), 13);
        check.says(0, "CANDIDATES: of these those that are not ALLOWED at a time, without a SIGN");
        // west to east instead: left turns go from greater numbers into less ones
        String mirrored = "corner50 0;corner99 9;corner60 9;corner0 9;street0 1 5;street0 2 5;street0 3 5;";
        check.due("three", Texts.townOf(mirrored).candidates(0), 3);
        check.due("one allowed", Texts.townOf(mirrored + "may1 0;").candidates(0), 2);
        check.due("one with a sign", Texts.townOf(mirrored + "no2 1;").candidates(0), 2);
        check.due("what is no left turn does not count", Texts.townOf(mirrored + "may0 1;no1 2;").candidates(0), 3);
        RightTurns x = Texts.townOf(HOOK);
        x.allow(0, 1, true);
        x.sign(0, 1, true);
        x.allow(0, 1, false);
        x.sign(0, 1, false);
        int[] due = {1, 0, 0, 0, 1};
        for (int time = 0; time < 5; time++) {
            check.due("at " + time, x.candidates(time), due[time]);
        }
    }

    private void fourteen() {
        check.says(0, "the first 14 count");
        RightTurns x = Texts.townOf(FAN);
        check.due("not by the first 14", x.fewest(0, 0), NONE);
        x.allow(4, 5, true);
        check.due("by them, when the 15th is allowed", x.fewest(1, 0), 14);
        check.due("all of them", x.fewest(1, 1), (1 << 14) - 1);
        x.allow(4, 5, false);
        x.sign(0, 1, true);
        check.due("the 15th counts when one has a sign", x.candidates(3), 14);
        check.due("but that one lacks", x.fewest(3, 0), NONE);
        x.sign(0, 1, false);
        x.allow(0, 1, true);
        check.due("by 14, the 15th among them", x.fewest(5, 1), (1 << 14) - 1);
    }

    private void fewest() {
        check.says(22, "FEWEST: 0 how many, 1 the bits (of CANDIDATES)");
        check.due("without corners", new RightTurns().fewest(0, 0), 0);
        check.due("no bits", new RightTurns().fewest(0, 1), 0);
        check.due("one corner", Texts.townOf(ONE).fewest(0, 0), 0);
        check.due("open as it is", Texts.townOf(Texts.row(2) + "street0 1 1;").fewest(0, 1), 0);
        RightTurns x = Texts.townOf(HOOK);
        check.due("one", x.fewest(0, 0), 1);
        check.due("its bit", x.fewest(0, 1), 1);
        x.allow(0, 1, true);
        check.due("none any more", x.fewest(1, 0), 0);
        check.due("nor a bit", x.fewest(1, 1), 0);
    }

    private void fewestFourteen() {
        check.says(0, "FEWEST of them to be ALLOWED so that the town is OPEN");
        for (int allowed = 1; allowed <= 15; allowed++) {
            RightTurns x = Texts.townOf(FAN);
            for (int k = 0; k < allowed; k++) {
                x.allow(x.left(k) / 100, x.left(k) % 100, true);
            }
            check.due("with " + allowed, x.fewest(allowed, 0), 15 - allowed);
            check.due("all bits with " + allowed, x.fewest(allowed, 1), (1 << 15 - allowed) - 1);
        }
        check.due("one less leaves it shut", Texts.townOf(FAN).fewest(0, 1), NONE);
    }

    private void leastBits() {
        check.says(0, "of these sets the least (bits)");
        // three streets from 0 to 1, each with a left turn into the fourth: one of them is enough
        String three = "corner0 0;corner5 0;corner5 5;street0 1 30;street0 1 2;street0 1 2;street1 2 3;";
        RightTurns x = Texts.townOf(three);
        check.due("three candidates", x.candidates(0), 3);
        check.due("one is enough", x.fewest(0, 0), 1);
        check.due("the least", x.fewest(0, 1), 1);
        x.sign(0, 3, true);
        check.due("the first that is left is bit 0", x.fewest(1, 1), 1);
        check.due("of those that cost the least the least", Texts.townOf(three).cheapest(0, 1), 2);
        // two left turns more are needed, with one of those three
        RightTurns y = Texts.townOf(three + "corner9 0;corner9 5;street1 3 1;street3 4 1;");
        check.due("by three", y.fewest(0, 0), 3);
        check.due("the least of the three alike", y.fewest(0, 1), 0b11001);
    }

    private void fewestNone() {
        check.says(22, "NONE: not by all");
        RightTurns apart = Texts.townOf(Texts.row(2));
        check.due("two apart", apart.fewest(0, 0), NONE);
        check.due("no bits, either", apart.fewest(0, 1), NONE);
        RightTurns x = Texts.townOf(HOOK + "corner9 9;");
        check.due("one is never reached", x.fewest(0, 0), NONE);
        check.due("nor by bits", x.fewest(0, 1), NONE);
        RightTurns sign = Texts.townOf(HOOK + "no0 1;");
        check.due("a sign against the one", sign.fewest(0, 0), NONE);
        check.due("and no bits", sign.fewest(0, 1), NONE);
        check.due("by all but one of fifteen", Texts.townOf(FAN).fewest(0, 0), NONE);
    }

    private static int costOf(int n, int m) {
        return Texts.townOf("corner0 0;corner1 0;corner1 1;street0 1 " + n + ";street1 2 " + m + ";").cheapest(0, 0);
    }

    private void cheapest() {
        check.says(0, "1 and N of S, and of T, together by 10 (cut)");
        check.due("1 and 1", costOf(1, 1), 1);
        check.due("4 and 5", costOf(4, 5), 1);
        check.due("5 and 5", costOf(5, 5), 2);
        check.due("9 and 1", costOf(9, 1), 2);
        check.due("9 and 9, together", costOf(9, 9), 2);
        check.due("10 and 9", costOf(10, 9), 2);
        check.due("10 and 10", costOf(10, 10), 3);
        check.due("99 and 1", costOf(99, 1), 11);
        check.due("99 and 99", costOf(99, 99), 20);
        check.says(23, "CHEAPEST: 0 the sum, 1 the bits");
        check.due("without corners", new RightTurns().cheapest(0, 0) + new RightTurns().cheapest(0, 1), 0);
        check.due("one corner", Texts.townOf(ONE).cheapest(0, 0) + Texts.townOf(ONE).cheapest(0, 1), 0);
        RightTurns x = Texts.townOf(FAN + "may0 1;");
        check.due("14 of 2 each", x.cheapest(0, 0), 28);
        check.due("all bits", x.cheapest(0, 1), (1 << 14) - 1);
    }

    private void cheapestLeast() {
        check.says(0, "CHEAPEST: the same by the sum of what they cost");
        // to come to 0 there is one dear left turn, 3 into 1, or two cheap ones, 2 into 0 and 0 into 1
        RightTurns x = Texts.townOf("corner2 2;corner1 1;corner1 0;corner2 1;street2 3 1;street3 0 1;street1 2 1;street3 1 30;");
        check.due("fewest: the one", x.fewest(0, 1), 0b1000);
        check.due("one", x.fewest(0, 0), 1);
        check.due("cheapest: the two", x.cheapest(0, 1), 0b0101);
        check.due("1 each instead of 4", x.cheapest(0, 0), 2);
        RightTurns one = Texts.townOf("corner0 0;corner5 0;corner5 5;street0 1 99;street0 1 9;street0 1 8;street1 2 1;");
        check.due("fewest: the least bits", one.fewest(0, 1), 1);
        check.due("cheapest: 8 and 1", one.cheapest(0, 0), 1);
        check.due("9 and 1 would cost 2", one.cheapest(0, 1), 4);
        RightTurns same = Texts.townOf("corner0 0;corner5 0;corner5 5;street0 1 99;street0 1 7;street0 1 8;street1 2 1;");
        check.due("of two that cost alike the least", same.cheapest(0, 1), 2);
    }

    private void cheapestNone() {
        check.says(23, "NONE");
        RightTurns apart = Texts.townOf(Texts.row(2));
        check.due("two apart", apart.cheapest(0, 0), NONE);
        check.due("no bits, either", apart.cheapest(0, 1), NONE);
        RightTurns fan = Texts.townOf(FAN);
        check.due("not by 14", fan.cheapest(0, 0), NONE);
        check.due("nor bits", fan.cheapest(0, 1), NONE);
        RightTurns sign = Texts.townOf(HOOK + "no0 1;");
        check.due("a sign", sign.cheapest(0, 0), NONE);
        check.due("a sign, no bits", sign.cheapest(0, 1), NONE);
    }

    private void exchange() {
        check.says(24, "1,000 times the number among LEFT TURNS of the one forbidden, and of the one allowed (what 0");
        RightTurns x = Texts.townOf(FAN + "street0 1 5;may6 5;may0 5;");
        // lefts: 0 into 1 to 5 are 0 to 4; 6 into 1 to 5 are 15 to 19; 0 into 5 may go, as 6 goes there, too
        check.due("twenty left turns", x.told(4), 20);
        check.due("4 for 0", x.exchange(0, 0), 4000);
        check.due("one pair more", x.exchange(0, 1), x.open(0, 1) + 1);
        // the one that is forbidden costs a pair, the one that is allowed brings two
        RightTurns hooks = Texts.townOf(TWO_HOOKS + "may3 4;");
        check.due("1 for 0, the only candidate", hooks.exchange(0, 0), 1000);
        check.due("two more, one less", hooks.exchange(0, 1), 17);
        RightTurns mirrored = Texts.townOf(HOOKS_MIRRORED + "may4 3;");
        check.due("the same by greater numbers into less ones", mirrored.exchange(0, 0), 1000);
        check.due("as many", mirrored.exchange(0, 1), 17);
        check.says(24, "how many pairs then (1)");
        check.due("without a town", new RightTurns().exchange(0, 1), 0);
        check.due("none helps: as it is", Texts.townOf(HOOK).exchange(0, 1), 5);
        check.due("none helps: all", Texts.townOf(HOOK + "may0 1;").exchange(0, 1), 6);
    }

    private void exchangeFirst() {
        check.says(0, "the first such two, if more than as it is");
        // left turns 4 and 19 are the same way by two streets: either may go, and 14 others gain one pair each
        RightTurns x = Texts.townOf(FAN + "street0 1 5;may0 5;may6 5;");
        check.due("the first to go, the first to come", x.exchange(0, 0), 4000);
        // what would come first is worth nothing, as 6 has it already
        RightTurns y = Texts.townOf(FAN + "street0 1 5;may0 5;may6 5;may6 1;");
        check.due("0 is worth nothing, 1 is", y.exchange(0, 0), 4001);
        RightTurns even = Texts.townOf(FAN + "may0 1;");
        check.due("as many is not more", even.exchange(0, 0), NONE);
        check.due("as it is", even.exchange(0, 1), even.open(0, 1));
    }

    private void exchangeNone() {
        check.says(24, "NONE: none helps");
        check.due("without a town", new RightTurns().exchange(0, 0), NONE);
        check.due("one corner", Texts.townOf(ONE).exchange(0, 0), NONE);
        check.due("none is allowed", Texts.townOf(FAN).exchange(0, 0), NONE);
        check.due("no candidate", Texts.townOf(HOOK + "may0 1;").exchange(0, 0), NONE);
        check.due("the one allowed has a sign", Texts.townOf(FAN + "street0 1 5;may6 5;may0 5;no6 5;no0 5;").exchange(0, 0), NONE);
        RightTurns one = Texts.townOf(FAN + "street0 1 5;may6 5;may0 5;no6 5;");
        check.due("with a sign on one, the other is no more twice", one.exchange(0, 0), NONE);
        RightTurns back = Texts.townOf(FAN + "street0 1 5;may6 5;may0 5;no6 5;");
        back.sign(6, 5, false);
        check.due("without it", back.exchange(1, 0), 4000);
    }

    private void exchangeFourteen() {
        check.says(0, "EXCHANGE: of those ALLOWED (no SIGN) one that is forbidden, and of CANDIDATES one that is allowed instead, "
                + "by which most pairs of CORNERS (A to B, A not B) have a RIDE");
        RightTurns x = Texts.townOf(NINE);
        check.due("nineteen left turns", x.told(4), 19);
        check.due("the only one that helps is the sixteenth", x.exchange(0, 0), NONE);
        x.allow(1, 10, true);
        check.due("the fifteenth", x.exchange(1, 0), NONE);
        x.allow(2, 9, true);
        check.due("the fourteenth", x.exchange(2, 0), 18);
        check.due("one pair more", x.exchange(2, 1), 12);
        x.sign(3, 9, true);
        check.due("the thirteenth", x.exchange(3, 0), 18);
        check.due("as it is at 1", x.exchange(1, 1), 11);
    }

    private void gain() {
        check.says(36, "GAIN: its number among LEFT TURNS (what 0");
        RightTurns x = Texts.townOf(FAN + "rider1 2 0;rider5 6 0;");
        check.due("of the two that bring one more the first", x.gain(0, 0), 0);
        check.due("together", x.gain(0, 1), 10);
        x.allow(0, 1, true);
        check.due("then the other", x.gain(1, 0), 14);
        check.due("both together", x.gain(1, 1), 20);
        x.allow(4, 5, true);
        check.due("then none", x.gain(2, 0), NONE);
        check.due("as it is", x.gain(2, 1), 20);
        check.says(36, "all SHORTEST together then (1)");
        check.due("twelve riders", Texts.townOf(HOOK + "rider0 2 1;".repeat(12)).gain(0, 1), 144);
        check.due("twelve that ride already", Texts.townOf(HOOK + "rider2 0 1;".repeat(12)).gain(0, 1), 144);
        check.due("none rides", Texts.townOf(HOOK + "no0 1;rider0 2 1;").gain(0, 1), 0);
    }

    private void gainMostRides() {
        check.says(0, "SHORTEST of all RIDERS together are least (as many as can have a RIDE first), of these the first, "
                + "if it is better than as it is");
        // one more rides by 99 and 7: more together, but as many as can come first
        RightTurns x = Texts.townOf("corner0 0;corner1 0;corner1 1;street0 1 99;street1 2 7;rider2 1 0;rider0 2 0;");
        check.due("more rides, though longer", x.gain(0, 0), 0);
        check.due("7 and 106", x.gain(0, 1), 113);
        // of three alike streets each left turn does the same
        RightTurns three = Texts.townOf("corner0 0;corner1 0;corner1 1;street0 1 9;street0 1 9;street0 1 8;street1 2 7;rider0 2 0;");
        check.due("the shorter one", three.gain(0, 0), 2);
        check.due("8 and 7", three.gain(0, 1), 15);
        three.allow(2, 3, true);
        check.due("longer ones are not better", three.gain(1, 0), NONE);
        three.sign(2, 3, true);
        check.due("of two alike the first", three.gain(2, 0), 0);
        three.allow(1, 3, true);
        check.due("one as good is not better", three.gain(3, 0), NONE);
        check.due("as it is", three.gain(3, 1), 16);
    }

    private void gainNone() {
        check.says(36, "NONE: none is better");
        check.due("without a town", new RightTurns().gain(0, 0), NONE);
        check.due("together nothing", new RightTurns().gain(0, 1), 0);
        check.due("one corner", Texts.townOf(ONE).gain(0, 0), NONE);
        check.due("no riders", Texts.townOf(FAN).gain(0, 0), NONE);
        check.due("no candidates", Texts.townOf(HOOK + "may0 1;rider0 2 1;").gain(0, 0), NONE);
        check.due("those are together", Texts.townOf(HOOK + "may0 1;rider0 2 1;").gain(0, 1), 12);
        check.due("a sign against it", Texts.townOf(HOOK + "no0 1;rider0 2 1;").gain(0, 0), NONE);
        check.due("as short already", Texts.townOf(HOOK + "rider2 0 1;").gain(0, 0), NONE);
    }

    private void gainFourteen() {
        check.says(0, "GAIN: of CANDIDATES that by which, allowed alone");
        RightTurns x = Texts.townOf(FAN + "rider5 6 0;");
        check.due("the only one that helps is the fifteenth", x.gain(0, 0), NONE);
        check.due("nobody rides", x.gain(0, 1), 0);
        x.allow(0, 1, true);
        check.due("the fourteenth", x.gain(1, 0), 14);
        check.due("it rides", x.gain(1, 1), 10);
        // two together would help, one alone does not
        RightTurns two = Texts.townOf("corner0 0;corner1 0;corner1 1;corner0 1;street0 1 5;street1 2 5;street2 3 5;one0;one1;one2;rider0 3 0;");
        check.due("two left turns", two.candidates(0), 2);
        check.due("none alone", two.gain(0, 0), NONE);
        two.allow(0, 1, true);
        check.due("one more", two.gain(1, 0), 1);
        check.due("all three streets", two.gain(1, 1), 15);
    }
}
