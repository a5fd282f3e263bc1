/** The bounds of rides, of who reaches whom, of parts, cuts, detours and the baker: sentence by sentence. */
public final class RideBoundsTest {
    private static final int NONE = RightTurns.NONE;

    /** Arcs 0, 2, 4, 6 go round by left turns, 7, 5, 3, 1 by right ones. */
    private static final String SQUARE = "corner0 0;corner9 0;corner9 9;corner0 9;"
            + "street0 1 9;street1 2 8;street2 3 7;street3 0 6;";

    /** From 0 to 2 there is a left turn at 1, from 2 to 0 a right one. */
    private static final String HOOK = "corner0 0;corner1 0;corner1 1;street0 1 5;street1 2 7;";

    private static final String ONE = "corner 7 7;";

    private final Check check = new Check();

    public static void main(String[] args) {
        RideBoundsTest test = new RideBoundsTest();
        test.toItself();
        test.lengths();
        test.longest();
        test.noRide();
        test.noSuchCorner();
        test.cornerAheadOfOthers();
        test.firstOfShortest();
        test.steps();
        test.stepNone();
        test.reached();
        test.reachedBits();
        test.lost();
        test.parts();
        test.partsGreatest();
        test.together();
        test.open();
        test.openPairs();
        test.since();
        test.sinceNone();
        test.cut();
        test.cutNone();
        test.detour();
        test.detourNone();
        test.baker();
        test.bakerNone();
        test.whats();
        test.check.end();
    }

    /** So many corners from west to east, each with a street to the next one. */
    private static String line(int corners, int n) {
        StringBuilder text = new StringBuilder(Texts.row(corners));
        for (int i = 0; i + 1 < corners; i++) {
            text.append("street").append(i).append(' ').append(i + 1).append(' ').append(n).append(';');
        }
        return text.toString();
    }

    private void toItself() {
        check.says(0, "to itself: none, 0");
        RightTurns x = Texts.townOf(SQUARE);
        for (int c = 0; c < 4; c++) {
            check.due("0 long", x.ride(c, c, 0), 0);
            check.due("none", x.step(c, c, 0, 0), NONE);
        }
        RightTurns one = Texts.townOf(ONE);
        check.due("without a street", one.ride(0, 0, 0), 0);
        check.due("no arc", one.step(0, 0, 0, 0), NONE);
        RightTurns full = Texts.townOf(line(16, 1));
        check.due("of the last of sixteen", full.ride(15, 15, 0), 0);
        check.due("nor an arc there", full.step(15, 15, 0, 0), NONE);
    }

    private void lengths() {
        check.says(0, "as long as its STREETS together");
        RightTurns x = Texts.townOf(line(16, 99));
        for (int to = 1; to < 16; to++) {
            check.due("from 0 to " + to, x.ride(0, to, 0), 99 * to);
        }
        check.says(13, "SHORTEST: its length");
        check.due("one of 1", Texts.townOf(line(2, 1)).ride(0, 1, 0), 1);
        check.due("the shorter of two", Texts.townOf(line(2, 99) + "street1 0 98;").ride(0, 1, 0), 98);
        check.due("two streets instead of one", Texts.townOf(Texts.row(3) + "street0 2 9;street0 1 4;street1 2 4;").ride(0, 2, 0), 8);
        check.due("one street instead of two", Texts.townOf(Texts.row(3) + "street0 2 7;street0 1 4;street1 2 4;").ride(0, 2, 0), 7);
    }

    private void longest() {
        check.says(0, "A RIDE from a CORNER to another one: ARCS, the first beginning at the one, the last ending at the "
                + "other, each TURN between may be ridden");
        // corner 1 is passed twice: east, right, right, right, then straight on over the first street
        RightTurns twice = Texts.townOf("corner0 5;corner5 5;corner9 5;corner9 1;corner5 1;corner5 9;"
                + "street0 1 99;street1 2 99;street2 3 99;street3 4 99;street4 1 99;street1 5 99;");
        check.due("six streets of 99", twice.ride(0, 5, 0), 594);
        check.due("the last of them", twice.step(0, 5, 0, 5), 10);
        check.due("no more", twice.step(0, 5, 0, 6), NONE);
        twice.sign(4, 5, true);
        check.due("but for its last turn", twice.ride(0, 5, 1), NONE);
        twice.back(0);
        twice.sign(0, 1, true);
        check.due("but for its first turn", twice.ride(0, 5, 3), NONE);
    }

    private void noRide() {
        check.says(13, "NONE");
        RightTurns x = Texts.townOf(HOOK + "corner9 9;");
        check.due("left", x.ride(0, 2, 0), NONE);
        check.due("right", x.ride(2, 0, 0), 12);
        check.due("no street to it", x.ride(0, 3, 0), NONE);
        check.due("no street from it", x.ride(3, 0, 0), NONE);
        x.allow(0, 1, true);
        check.due("left, then", x.ride(0, 2, 1), 12);
        check.due("not at 0", x.ride(0, 2, 0), NONE);
        RightTurns oneWay = Texts.townOf(HOOK + "one0;one1;");
        check.due("against one way", oneWay.ride(1, 0, 0), NONE);
        check.due("along it", oneWay.ride(0, 1, 0), 5);
        check.due("nobody turns at a dead end", Texts.townOf(line(3, 1) + "no 1 0;").ride(2, 0, 0), NONE);
    }

    private void noSuchCorner() {
        check.says(13, "IndexOutOfBoundsException: no such CORNER (so below");
        for (int many : new int[] {0, 1, 4, 16}) {
            String text = many == 4 ? SQUARE : line(many, 1);
            RightTurns x = Texts.townOf(text);
            int other = 0;
            if (many > 0) {
                check.only("from of ride", many, Check.OUT, c -> x.ride(c, other, 0));
                check.only("to of ride", many, Check.OUT, c -> x.ride(other, c, 0));
                check.only("from of step", many, Check.OUT, c -> x.step(c, other, 0, 0));
                check.only("to of step", many, Check.OUT, c -> x.step(other, c, 0, 0));
                check.only("from of since", many, Check.OUT, c -> x.since(c, other, 0, true));
                check.only("to of since", many, Check.OUT, c -> x.since(other, c, 0, false));
                check.only("from of detour", many, Check.OUT, c -> x.detour(c, other, 0));
                check.only("to of detour", many, Check.OUT, c -> x.detour(other, c, 0));
            }
            check.only("both of ride", many, Check.OUT, c -> x.ride(c, c, 0));
            check.only("corner of reach", many, Check.OUT, c -> x.reach(c, 0, 0));
            check.only("corner of home", many, Check.OUT, c -> x.reach(c, 0, 1));
            check.only("corner of lost", many, Check.OUT, c -> x.reach(c, 0, 2));
            check.only("corner of round", many, Check.OUT, c -> x.round(c, 0));
            check.only("corner of bound", many, Check.OUT, c -> x.bound(c, 0));
            check.only("corner of tell", many, Check.OUT, x::tell);
        }
    }

    private void cornerAheadOfOthers() {
        check.says(13, "ahead of others");
        RightTurns x = Texts.townOf(SQUARE);
        for (int wrong : new int[] {-1, 4, Integer.MIN_VALUE, Integer.MAX_VALUE}) {
            for (int time : new int[] {-1, 1}) {
                check.throwsOut("from of ride", () -> x.ride(wrong, 0, time));
                check.throwsOut("to of ride", () -> x.ride(0, wrong, time));
                check.throwsOut("from of step", () -> x.step(wrong, 0, time, -1));
                check.throwsOut("to of step", () -> x.step(0, wrong, time, -1));
                check.throwsOut("reach, time and what", () -> x.reach(wrong, time, 3));
                check.throwsOut("reach, time", () -> x.reach(wrong, time, 0));
                check.throwsOut("reach, what", () -> x.reach(wrong, 0, -1));
                check.throwsOut("from of since", () -> x.since(wrong, 0, time, true));
                check.throwsOut("to of since", () -> x.since(0, wrong, time, false));
                check.throwsOut("round", () -> x.round(wrong, time));
                check.throwsOut("bound", () -> x.bound(wrong, time));
                check.throwsOut("from of detour", () -> x.detour(wrong, 0, time));
                check.throwsOut("to of detour", () -> x.detour(0, wrong, time));
            }
        }
        check.throwsIllegal("corners there are, time not", () -> x.ride(3, 0, 1));
        check.throwsIllegal("to itself: time not", () -> x.ride(3, 3, 1));
        check.throwsIllegal("time of a step that is none", () -> x.step(0, 1, 1, 99));
        check.throwsIllegal("time of a detour to itself", () -> x.detour(0, 0, -1));
        check.throwsIllegal("time of a round without boxes", () -> x.round(0, 1));
        check.throwsIllegal("time of a bound without boxes", () -> x.bound(0, 1));
    }

    private void firstOfShortest() {
        check.says(0, "SHORTEST; of these the first (ARC by ARC)");
        RightTurns x = Texts.townOf(Texts.row(3) + "street1 0 5;street0 1 5;street0 1 5;street2 1 4;street1 2 4;street0 2 9;");
        check.due("the least arc of three", x.step(0, 1, 0, 0), 1);
        check.due("as well the other way", x.step(1, 0, 0, 0), 0);
        check.due("two arcs ahead of one, as the first is less", x.step(0, 2, 0, 0), 1);
        check.due("and of the second ones the less", x.step(0, 2, 0, 1), 7);
        RightTurns y = Texts.townOf(Texts.row(3) + "street0 2 9;street0 1 5;street1 2 4;");
        check.due("one arc ahead of two, as it is less", y.step(0, 2, 0, 0), 0);
        check.due("and no more", y.step(0, 2, 0, 1), NONE);
        RightTurns z = Texts.townOf(Texts.row(3) + "street0 2 10;street0 1 5;street1 2 4;");
        check.due("the shorter one ahead of the first", z.step(0, 2, 0, 0), 2);
    }

    private void steps() {
        check.says(14, "Its k-th ARC");
        RightTurns x = Texts.townOf(line(16, 9));
        for (int k = 0; k < 15; k++) {
            check.due("east " + k, x.step(0, 15, 0, k), 2 * k);
            check.due("west " + k, x.step(15, 0, 0, k), 29 - 2 * k);
        }
    }

    private void stepNone() {
        check.says(14, "NONE: none such");
        RightTurns x = Texts.townOf(line(16, 9));
        check.only("k of fifteen", 15, "-1", k -> x.step(0, 15, 0, k));
        check.due("k of one", x.step(3, 4, 0, 0), 6);
        check.due("beyond one", x.step(3, 4, 0, 1), NONE);
        check.only("k of none", 0, "-1", k -> x.step(3, 3, 0, k));
        RightTurns hook = Texts.townOf(HOOK);
        check.only("k without a ride", 0, "-1", k -> hook.step(0, 2, 0, k));
    }

    private void reached() {
        check.says(0, "REACHED from a CORNER: those a RIDE leads to (itself too)");
        RightTurns x = Texts.townOf(HOOK + "corner9 9;");
        check.due("from 0", x.reach(0, 0, 0), 0b0011);
        check.due("from 1", x.reach(1, 0, 0), 0b0111);
        check.due("from 2", x.reach(2, 0, 0), 0b0111);
        check.due("from one without streets", x.reach(3, 0, 0), 0b1000);
        check.says(0, "HOME of a CORNER: those from which one leads to it");
        check.due("to 0", x.reach(0, 0, 1), 0b0111);
        check.due("to 1", x.reach(1, 0, 1), 0b0111);
        check.due("to 2", x.reach(2, 0, 1), 0b0110);
        check.due("to one without streets", x.reach(3, 0, 1), 0b1000);
    }

    private void reachedBits() {
        check.says(15, "REACHED (what 0), HOME (1), as bits");
        RightTurns x = Texts.townOf(line(16, 1));
        for (int c = 0; c < 16; c++) {
            check.due("all sixteen", x.reach(c, 0, 0), 65535);
            check.due("home as well", x.reach(c, 0, 1), 65535);
        }
        StringBuilder oneWay = new StringBuilder(line(16, 1));
        for (int s = 0; s < 15; s++) {
            oneWay.append("one").append(s).append(';');
        }
        RightTurns y = Texts.townOf(oneWay.toString());
        for (int c = 0; c < 16; c++) {
            check.due("those behind " + c, y.reach(c, 0, 0), 65535 & -1 << c);
            check.due("those ahead of " + c, y.reach(c, 0, 1), (2 << c) - 1);
        }
        check.due("the only one", Texts.townOf(ONE).reach(0, 0, 0), 1);
        check.due("home of the only one", Texts.townOf(ONE).reach(0, 0, 1), 1);
    }

    private void lost() {
        check.says(15, "LOST (2)");
        check.due("one alone", Texts.townOf(ONE).reach(0, 0, 2), 0);
        check.due("all come back", Texts.townOf(SQUARE).reach(0, 0, 2), 0);
        check.says(0, "LOST of a CORNER: how many of those REACHED from it no RIDE leads back from (to it)");
        StringBuilder star = new StringBuilder(Texts.row(16));
        for (int i = 1; i < 16; i++) {
            star.append("street0 ").append(i).append(" 1;one").append(i - 1).append(';');
        }
        RightTurns x = Texts.townOf(star.toString());
        check.due("all but itself", x.reach(0, 0, 2), 15);
        check.due("who reaches nobody loses none", x.reach(15, 0, 2), 0);
        RightTurns hook = Texts.townOf(HOOK);
        check.due("2 comes to 0, 0 not to 2", hook.reach(2, 0, 2), 1);
        check.due("0 reaches but what comes back", hook.reach(0, 0, 2), 0);
    }

    private void parts() {
        check.says(16, "PARTS: how many there are (what 0), the ARCS of the greatest (1)");
        check.due("no arcs", Texts.townOf(ONE).parts(0, 0), 0);
        check.due("none of them the greatest", Texts.townOf(ONE).parts(0, 1), 0);
        RightTurns two = Texts.townOf(line(2, 1));
        check.due("two arcs", two.parts(0, 0), 2);
        check.due("each alone", two.parts(0, 1), 1);
        RightTurns one = Texts.townOf(line(2, 1) + "one0;");
        check.due("one arc", one.parts(0, 0), 1);
        check.due("alone", one.parts(0, 1), 1);
        RightTurns many = Texts.townOf(Texts.row(2) + "street0 1 1;".repeat(24));
        check.due("48 arcs", many.parts(0, 0), 48);
        check.due("each alone, too", many.parts(0, 1), 1);
    }

    private void partsGreatest() {
        check.says(0, "PARTS: sets of ARCS that are reached from one another by TURNS (each is in one, perhaps alone)");
        RightTurns x = Texts.townOf(SQUARE);
        check.due("a round of four, four alone", x.parts(0, 0), 5);
        check.due("the round", x.parts(0, 1), 4);
        for (int s = 0; s < 3; s++) {
            x.allow(s, s + 1, true);
        }
        check.due("three of four turns make no round", x.parts(3, 0), 5);
        x.allow(3, 0, true);
        check.due("two rounds", x.parts(4, 0), 2);
        check.due("of four each", x.parts(4, 1), 4);
        x.sign(3, 2, true);
        check.due("the round by the right is broken", x.parts(5, 0), 5);
        check.due("that by the left is the greatest", x.parts(5, 1), 4);
    }

    private void together() {
        check.says(17, "Whether two ARCS are in one PART");
        RightTurns x = Texts.townOf(SQUARE);
        check.due("each with itself", x.together(0, 0, 0) && x.together(7, 7, 0), true);
        check.due("of the round", x.together(7, 5, 0) && x.together(1, 7, 0), true);
        check.due("alone", x.together(0, 2, 0) || x.together(2, 0, 0) || x.together(0, 1, 0), false);
        // 0 leads to 2 when that is allowed, but 2 not to 0
        x.allow(0, 1, true);
        check.due("one way only", x.together(0, 2, 1) || x.together(2, 0, 1), false);
        RightTurns one = Texts.townOf(line(2, 1) + "one0;");
        check.due("the only arc", one.together(0, 0, 0), true);
        RightTurns last = Texts.townOf(Texts.row(2) + "street0 1 1;".repeat(24));
        check.due("the last arc", last.together(47, 47, 0), true);
        check.due("the last two", last.together(47, 46, 0), false);
    }

    private void open() {
        check.says(0, "OPEN is a town, if each CORNER is REACHED from each");
        check.due("without corners", new RightTurns().open(0, 0), 1);
        check.due("one corner", Texts.townOf(ONE).open(0, 0), 1);
        check.due("two apart", Texts.townOf(Texts.row(2)).open(0, 0), 0);
        check.due("two joined", Texts.townOf(line(2, 1)).open(0, 0), 1);
        check.due("two joined one way", Texts.townOf(line(2, 1) + "one0;").open(0, 0), 0);
        check.due("sixteen", Texts.townOf(line(16, 1)).open(0, 0), 1);
        check.due("sixteen, the last way back barred", Texts.townOf(line(16, 1) + "one14;").open(0, 0), 0);
        RightTurns x = Texts.townOf(HOOK);
        x.allow(0, 1, true);
        check.due("one pair less than all", x.open(0, 0), 0);
        check.due("all", x.open(1, 0), 1);
    }

    private void openPairs() {
        check.says(18, "Whether the town is OPEN (what 0: 1, 0), how many pairs of CORNERS (A to B, A not B) have a RIDE "
                + "(1)");
        check.due("without corners", new RightTurns().open(0, 1), 0);
        check.due("one corner", Texts.townOf(ONE).open(0, 1), 0);
        check.due("two apart", Texts.townOf(Texts.row(2)).open(0, 1), 0);
        check.due("two joined one way", Texts.townOf(line(2, 1) + "one0;").open(0, 1), 1);
        check.due("two joined", Texts.townOf(line(2, 1)).open(0, 1), 2);
        check.due("fifteen", Texts.townOf(line(15, 1)).open(0, 1), 210);
        check.due("sixteen", Texts.townOf(line(16, 1)).open(0, 1), 240);
        check.due("sixteen apart", Texts.townOf(Texts.row(16)).open(0, 1), 0);
        check.due("sixteen, the last way back barred", Texts.townOf(line(16, 1) + "one14;").open(0, 1), 225);
        check.due("a left turn", Texts.townOf(HOOK).open(0, 1), 5);
    }

    private void since() {
        check.says(19, "The first time, from a told one on, at which one CORNER is not REACHED from another one (is false), "
                + "or is (true)");
        RightTurns x = Texts.townOf(HOOK);
        for (int i = 1; i <= 200; i++) {
            if (i == 50 || i == 51 || i == 200) {
                x.allow(0, 1, i != 51);
            } else {
                x.back(i - 1);
            }
        }
        check.due("is at 50", x.since(0, 2, 0, true), 50);
        check.due("from 49 on", x.since(0, 2, 49, true), 50);
        check.due("from 50 on", x.since(0, 2, 50, true), 50);
        check.due("from 51 on", x.since(0, 2, 51, true), 200);
        check.due("from 200 on", x.since(0, 2, 200, true), 200);
        check.due("is not at once", x.since(0, 2, 0, false), 0);
        check.due("is not from 50 on", x.since(0, 2, 50, false), 51);
        check.due("is not from 199 on", x.since(0, 2, 199, false), 199);
        check.due("2 to 0 at once", x.since(2, 0, 0, true), 0);
        check.due("itself at once", x.since(1, 1, 77, true), 77);
        check.due("itself at the latest", x.since(1, 1, 200, true), 200);
    }

    private void sinceNone() {
        check.says(19, "NONE: it always is, or isn't, so");
        RightTurns x = Texts.townOf(HOOK + "corner9 9;");
        check.due("isn't at the only time", x.since(0, 2, 0, true), NONE);
        x.allow(0, 1, true);
        check.due("always is from 1 on", x.since(0, 2, 1, false), NONE);
        check.due("not always from 0 on", x.since(0, 2, 0, false), 0);
        check.due("always is", x.since(2, 0, 0, false), NONE);
        check.due("never is", x.since(0, 3, 0, true), NONE);
        check.due("itself always is", x.since(3, 3, 0, false), NONE);
        x.allow(0, 1, false);
        check.due("isn't any more", x.since(0, 2, 2, true), NONE);
        check.due("was at 1", x.since(0, 2, 1, true), 1);
        // a time that is gone is not looked at
        x.image();
        x.allow(0, 1, true);
        x.restore();
        check.due("not behind the latest", x.since(0, 2, 2, true), NONE);
    }

    private void cut() {
        check.says(0, "that of the fewest CORNERS, of these the least (bits)");
        check.due("two apart: the first", Texts.townOf(Texts.row(2)).cut(0), 1);
        check.due("sixteen apart", Texts.townOf(Texts.row(16)).cut(0), 1);
        check.due("the last alone", Texts.townOf(line(16, 1) + "one14;").cut(0), 1 << 15);
        check.due("all but the first", Texts.townOf(line(16, 1) + "one0;").cut(0), 65534);
        check.due("one ahead of two of less bits", Texts.townOf(Texts.row(3) + "street0 1 1;").cut(0), 4);
        check.due("two and two", Texts.townOf(Texts.row(4) + "street0 3 1;street1 2 1;").cut(0), 0b0110);
        check.says(0, "of all sets of CORNERS, one at least and not all, from none of which a RIDE leads to one that is "
                + "not in it");
        // from 0 no ride leads to 2, but one to 1, and from 1 one to 2
        check.due("no set for the hook", Texts.townOf(HOOK).cut(0), 0);
        // 0 to 2, 2 to 5, 5 to 4, 4 to 3, 3 to 1 and 1 to 0 each by a street that nobody leaves to the next one
        check.due("nor for a round by left turns alone", Texts.townOf("corner0 0;corner2 9;corner9 0;corner4 9;corner8 8;corner9 4;"
                + "street0 2 1;street2 5 1;street5 4 1;street4 3 1;street3 1 1;street1 0 1;one0;one1;one2;one3;one4;one5;").cut(0), 0);
        RightTurns x = Texts.townOf(HOOK + "one1;");
        check.due("2 leads nowhere", x.cut(0), 0b100);
        x.allow(0, 1, true);
        check.due("still", x.cut(1), 0b100);
    }

    private void cutNone() {
        check.says(33, "CUT; 0: there is none");
        check.due("without corners", new RightTurns().cut(0), 0);
        check.due("one corner", Texts.townOf(ONE).cut(0), 0);
        check.due("two joined", Texts.townOf(line(2, 1)).cut(0), 0);
        check.due("two joined one way", Texts.townOf(line(2, 1) + "one0;").cut(0), 2);
        check.due("sixteen joined", Texts.townOf(line(16, 1)).cut(0), 0);
        check.due("a square", Texts.townOf(SQUARE).cut(0), 0);
    }

    private void detour() {
        check.says(0, "DETOUR of a CORNER to another one: SHORTEST less what it would be, if all TURNS but those BACK "
                + "might be ridden, SIGNS or not");
        RightTurns x = Texts.townOf(SQUARE + "street0 2 99;");
        check.due("by the right as by the left", x.detour(0, 2, 0), 0);
        // by the left from 0 it would be 17, by the right 13
        x.sign(3, 2, true);
        check.due("a sign against the short way", x.detour(0, 2, 1), 86);
        x.allow(0, 1, true);
        check.due("the left way is 4 longer", x.detour(0, 2, 2), 4);
        x.sign(0, 1, true);
        check.due("a sign against that, too", x.detour(0, 2, 3), 86);
        check.says(35, "DETOUR");
        check.due("to itself", x.detour(2, 2, 3), 0);
        check.due("along one street", x.detour(0, 1, 3), 0);
        check.due("of one corner", Texts.townOf(ONE).detour(0, 0, 0), 0);
        // from 0 to 2 it is back at 1, which is not free either: all go round, by one left turn that is allowed
        RightTurns back = Texts.townOf("corner4 5;corner5 5;corner0 5;corner9 5;corner9 1;corner5 1;"
                + "street0 1 1;street1 2 5;street1 3 4;street3 4 4;street4 5 4;street5 1 4;may5 1;");
        check.due("all round", back.ride(0, 2, 0), 22);
        check.due("back is not free", back.detour(0, 2, 0), 0);
    }

    private void detourNone() {
        check.says(35, "NONE: there is no RIDE");
        RightTurns x = Texts.townOf(HOOK + "corner9 9;");
        check.due("but a free one", x.detour(0, 2, 0), NONE);
        check.due("nor a free one", x.detour(0, 3, 0), NONE);
        check.due("the other way there is", x.detour(2, 0, 0), 0);
        x.allow(0, 1, true);
        check.due("then there is", x.detour(0, 2, 1), 0);
        x.sign(0, 1, true);
        check.due("then there is not", x.detour(0, 2, 2), NONE);
    }

    private void baker() {
        check.says(0, "BAKER: the STREET that most SHORTEST (the first of each), of all pairs of CORNERS A to B, pass, of "
                + "these the first (each pair once, though it may be passed both ways); how many");
        check.due("of all alike the first", Texts.townOf(Texts.row(6) + "street4 5 1;street2 3 1;street0 1 1;").baker(0, 0), 0);
        RightTurns x = Texts.townOf(line(16, 1));
        check.due("the middle of fifteen", x.baker(0, 0), 7);
        check.due("8 by 8, either way", x.baker(0, 1), 128);
        RightTurns even = Texts.townOf(line(15, 1));
        check.due("of two in the middle the first", even.baker(0, 0), 6);
        check.due("7 by 8, either way", even.baker(0, 1), 112);
        RightTurns last = Texts.townOf(Texts.row(2) + "street0 1 2;".repeat(23) + "street0 1 1;");
        check.due("the last of 24", last.baker(0, 0), 23);
        RightTurns both = Texts.townOf(Texts.TO_AND_FRO);
        check.due("to and fro", both.step(0, 8, 0, 1) + 100 * both.step(0, 8, 0, 8), 302);
        check.due("street 1", both.baker(0, 0), 1);
        check.due("by 25, once of 0 to 8", both.baker(0, 1), 25);
    }

    private void bakerNone() {
        check.says(37, "BAKER (what 0; NONE: no RIDES), how many (1)");
        check.due("without corners", new RightTurns().baker(0, 0), NONE);
        check.due("nor how many", new RightTurns().baker(0, 1), 0);
        check.due("one corner", Texts.townOf(ONE).baker(0, 0), NONE);
        check.due("nor how many there", Texts.townOf(ONE).baker(0, 1), 0);
        check.due("two apart", Texts.townOf(Texts.row(2)).baker(0, 0), NONE);
        check.due("none of them", Texts.townOf(Texts.row(2)).baker(0, 1), 0);
        RightTurns one = Texts.townOf(line(2, 1) + "one0;");
        check.due("one ride", one.baker(0, 0), 0);
        check.due("that one", one.baker(0, 1), 1);
    }

    private void whats() {
        check.says(5, "another what (so below)");
        for (String text : new String[] {"", ONE, SQUARE}) {
            RightTurns x = Texts.townOf(text);
            check.only("what of parts", 2, Check.ILLEGAL, what -> x.parts(0, what));
            check.only("what of open", 2, Check.ILLEGAL, what -> x.open(0, what));
            check.only("what of baker", 2, Check.ILLEGAL, what -> x.baker(0, what));
            check.only("what of fewest", 2, Check.ILLEGAL, what -> x.fewest(0, what));
            check.only("what of cheapest", 2, Check.ILLEGAL, what -> x.cheapest(0, what));
            check.only("what of exchange", 2, Check.ILLEGAL, what -> x.exchange(0, what));
            check.only("what of gain", 2, Check.ILLEGAL, what -> x.gain(0, what));
            check.only("what of breaks", 2, Check.ILLEGAL, what -> x.breaks(0, what));
            check.only("what of traffic", 4, Check.ILLEGAL, x::traffic);
        }
        RightTurns x = Texts.townOf(SQUARE);
        check.only("what of reach", 3, Check.ILLEGAL, what -> x.reach(0, 0, what));
        check.only("what of stands", 2, Check.ILLEGAL, what -> x.stands(0, 1, 0, what));
        check.only("what of street", 4, Check.ILLEGAL, what -> x.street(0, what));
    }
}
