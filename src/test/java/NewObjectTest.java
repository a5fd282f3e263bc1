/** A new object without a town, one with an empty text, and one with a single corner, asked by each method. */
public final class NewObjectTest {
    private static final int NONE = RightTurns.NONE;

    /** How an object without corners is made anew for each question, so that none depends on another one. */
    private interface Maker {
        RightTurns make();
    }

    private final Check check = new Check();

    public static void main(String[] args) {
        NewObjectTest test = new NewObjectTest();
        test.check.says(1, "No TOWN");
        test.withoutCorners("new", RightTurns::new);
        test.tapeOfNew();
        test.check.says(0, "A TOWN is a text of up to 500 bytes");
        test.withoutCorners("empty", NewObjectTest::emptyText);
        test.withoutCorners("blanks", () -> Texts.townOf(" ".repeat(500)));
        test.withoutCorners("empty behind another", NewObjectTest::emptyBehindAnother);
        test.withoutCorners("behind a fault", NewObjectTest::behindFault);
        test.check.says(0, "CORNERS, numbered from 0 on");
        test.oneCorner();
        test.check.end();
    }

    private static RightTurns emptyText() {
        RightTurns x = new RightTurns();
        x.town(0);
        return x;
    }

    private static RightTurns emptyBehindAnother() {
        RightTurns x = Texts.townOf("corner0 0;corner1 0;corner1 1;street0 1 1;street1 2 1;no0 1;may0 1;box1;rider0 1 0;");
        x.sign(1, 0, true);
        x.tell(1);
        x.image();
        x.town(0);
        return x;
    }

    private static RightTurns behindFault() {
        RightTurns x = new RightTurns();
        Texts.tell(x, "corner0 0;corner1 0;street0 1 1;box1;rider0 1 0;corner0 0;");
        return x;
    }

    private void withoutCorners(String name, Maker maker) {
        numbersOf(name, maker);
        noCorner(name, maker);
        noStreet(name, maker);
        bestOf(name, maker);
        changesOf(name, maker);
    }

    private void numbersOf(String name, Maker maker) {
        for (int what = 0; what <= 5; what++) {
            check.due(name + " told " + what, maker.make().told(what), 0);
        }
        check.only(name + " told", 6, Check.ILLEGAL, maker.make()::told);
        for (int what = 0; what < 3; what++) {
            check.due(name + " count " + what, maker.make().count(what), 0);
        }
        check.due(name + " other count", maker.make().count(3), NONE);
        check.only(name + " left", 0, "-1", maker.make()::left);
        check.due(name + " candidates", maker.make().candidates(0), 0);
        check.only(name + " time of candidates", 1, Check.ILLEGAL, maker.make()::candidates);
        check.only(name + " rider", 0, Check.ILLEGAL, maker.make()::home);
        int[] traffic = {0, 0, 0, NONE};
        for (int what = 0; what < 4; what++) {
            check.due(name + " traffic " + what, maker.make().traffic(what), traffic[what]);
        }
        check.only(name + " traffic", 4, Check.ILLEGAL, maker.make()::traffic);
    }

    private void noCorner(String name, Maker maker) {
        RightTurns x = maker.make();
        check.only(name + " ride", 0, Check.OUT, c -> x.ride(c, c, 0));
        check.only(name + " step", 0, Check.OUT, c -> x.step(c, c, 0, 0));
        for (int what = 0; what < 3; what++) {
            int w = what;
            check.only(name + " reach " + w, 0, Check.OUT, c -> x.reach(c, 0, w));
        }
        check.only(name + " since", 0, Check.OUT, c -> x.since(c, c, 0, true));
        check.only(name + " round", 0, Check.OUT, c -> x.round(c, 0));
        check.only(name + " bound", 0, Check.OUT, c -> x.bound(c, 0));
        check.only(name + " detour", 0, Check.OUT, c -> x.detour(c, c, 0));
        check.only(name + " tell", 0, Check.OUT, x::tell);
        check.throwsOut(name + " ride at no time", () -> x.ride(0, 0, 1));
    }

    private void noStreet(String name, Maker maker) {
        RightTurns x = maker.make();
        check.only(name + " street", 0, Check.NO_SUCH, s -> x.street(s, 0));
        check.only(name + " turn", 0, Check.NO_SUCH, a -> x.turn(a, a));
        check.only(name + " may", 0, Check.NO_SUCH, a -> x.may(a, a, 0));
        check.only(name + " sign", 0, Check.NO_SUCH, s -> x.sign(s, s + 1, true));
        check.only(name + " allow", 0, Check.NO_SUCH, s -> x.allow(s, s + 1, true));
        check.only(name + " stands", 0, Check.NO_SUCH, s -> x.stands(s, s, 0, 0));
        check.only(name + " together", 0, Check.NO_SUCH, a -> x.together(a, a, 0));
        check.only(name + " counts", 0, Check.NO_SUCH, x::counts);
        check.due(name + ": no change by those", x.told(5), 0);
    }

    private void bestOf(String name, Maker maker) {
        RightTurns x = maker.make();
        int[][] due = {{0, 0}, {1, 0}, {0, 0}, {0, 0}, {NONE, 0}, {NONE, 0}, {NONE, 0}};
        for (int what = 0; what < 2; what++) {
            check.due(name + " parts " + what, x.parts(0, what), due[0][what]);
            check.due(name + " open " + what, x.open(0, what), due[1][what]);
            check.due(name + " fewest " + what, x.fewest(0, what), due[2][what]);
            check.due(name + " cheapest " + what, x.cheapest(0, what), due[3][what]);
            check.due(name + " exchange " + what, x.exchange(0, what), due[4][what]);
            check.due(name + " gain " + what, x.gain(0, what), due[5][what]);
            check.due(name + " baker " + what, x.baker(0, what), due[6][what]);
            check.due(name + " breaks " + what, x.breaks(0, what), 0);
        }
        check.due(name + " cut", x.cut(0), 0);
        check.due(name + " sure", x.sure(0, 0), NONE);
        check.throwsIllegal(name + " parts at 1", () -> x.parts(1, 0));
        check.throwsIllegal(name + " open at -1", () -> x.open(-1, 0));
        check.throwsIllegal(name + " cut at 1", () -> x.cut(1));
        check.throwsIllegal(name + " sure at 1", () -> x.sure(1, 0));
        check.throwsIllegal(name + " open what", () -> x.open(0, 2));
    }

    private void changesOf(String name, Maker maker) {
        check.due(name + " forget", maker.make().forget(), 0);
        check.due(name + " restore", maker.make().restore(), -1);
        RightTurns x = maker.make();
        check.throwsIllegal(name + " back to 1", () -> x.back(1));
        check.throwsIllegal(name + " back to -1", () -> x.back(-1));
        check.due(name + " image", x.image(), 1);
        for (int i = 1; i <= 200; i++) {
            check.due(name + " back to 0", x.back(0), i);
        }
        check.due(name + " no 201st", x.back(0), -1);
        check.due(name + " open at 200", x.open(200, 0), 1);
        check.due(name + " restored", x.restore(), 0);
        check.due(name + " time 0", x.told(5), 0);
    }

    private void tapeOfNew() {
        check.due("no fault", new RightTurns().fault(), NONE);
        RightTurns x = new RightTurns();
        check.only("bytes", 1, Check.ILLEGAL, x::town);
        check.due("the first bytes", x.feed(0x20202020, 0x20202020, 0x20202020, 0x20202020, 0x20202020), 20);
        check.due("a first town", x.town(20), 0);
        // two objects have nothing in common
        RightTurns one = Texts.townOf("corner0 0;");
        check.due("a new one beside it", new RightTurns().told(0), 0);
        check.due("the other as it was", one.told(0), 1);
    }

    private void oneCorner() {
        RightTurns x = Texts.townOf("corner99 99;");
        check.due("told", x.told(0), 1);
        check.due("ride", x.ride(0, 0, 0), 0);
        check.due("step", x.step(0, 0, 0, 0), NONE);
        check.due("reach", x.reach(0, 0, 0) + 10 * x.reach(0, 0, 1) + 100 * x.reach(0, 0, 2), 11);
        check.due("parts", x.parts(0, 0) + x.parts(0, 1), 0);
        check.due("open", x.open(0, 0), 1);
        check.due("pairs", x.open(0, 1), 0);
        check.due("is always", x.since(0, 0, 0, true), 0);
        check.due("is never not", x.since(0, 0, 0, false), NONE);
        check.due("fewest", x.fewest(0, 0) + x.fewest(0, 1), 0);
        check.due("cheapest", x.cheapest(0, 0) + x.cheapest(0, 1), 0);
        check.due("exchange", x.exchange(0, 0), NONE);
        check.due("round and bound", x.round(0, 0) + x.bound(0, 0), 0);
        check.due("detour", x.detour(0, 0, 0), 0);
        check.due("gain", x.gain(0, 0), NONE);
        check.due("baker", x.baker(0, 0), NONE);
        check.due("cut", x.cut(0), 0);
        check.due("tell", x.tell(0), 1);
        check.due("breaks", x.breaks(0, 0) + x.breaks(0, 1), 0);
        check.throwsOut("no corner 1", () -> x.ride(0, 1, 0));
    }
}
