/** Each promise of the document by hand: ordinary inputs, the edges that it names, wrong inputs. */
public final class PromiseTest {
    private static final int NONE = RightTurns.NONE;

    /** Arcs 0, 2, 4, 6 go round by left turns, 7, 5, 3, 1 by right ones. */
    private static final String SQUARE = "corner 0 0;corner 10 0;corner 10 10;corner 0 10;"
            + "street 0 1 10;street 1 2 10;street 2 3 10;street 3 0 10;";

    /** Corner 0 in the middle, then east, north, west and south of it, all dead ends. */
    private static final String CROSS = "corner 5 5;corner 9 5;corner 5 9;corner 1 5;corner 5 1;"
            + "street 0 1 10;street 0 2 20;street 0 3 30;street 0 4 40;";

    /** Behind corner 1 a left turn to 2 and straight on to 3; far away the same, but a dead end behind one street. */
    private static final String TWO_HOOKS = "corner 0 0;corner 1 0;corner 1 1;corner 1 2;"
            + "corner 50 50;corner 51 50;corner 51 51;"
            + "street 0 1 5;street 1 2 5;street 2 3 5;street 4 5 5;street 5 6 5;";

    private final Check check = new Check();

    public static void main(String[] args) {
        PromiseTest test = new PromiseTest();
        test.newObject();
        test.feeding();
        test.towns();
        test.faults();
        test.limits();
        test.toldAndStreet();
        test.turns();
        test.signsAndLeave();
        test.changesAndTimes();
        test.rides();
        test.reaching();
        test.partsOfTowns();
        test.openness();
        test.sinceWhen();
        test.leftTurns();
        test.opening();
        test.exchanging();
        test.letterBoxes();
        test.traffic();
        test.longTraffic();
        test.toldRides();
        test.surePairs();
        test.cuts();
        test.detours();
        test.gains();
        test.bakers();
        test.images();
        test.wrongInputs();
        test.check.end();
    }

    private void newObject() {
        RightTurns x = new RightTurns();
        for (int what = 0; what <= 5; what++) {
            check.due("new told", x.told(what), 0);
        }
        check.due("new fault", x.fault(), NONE);
        check.due("new open", x.open(0, 0), 1);
        check.due("new pairs", x.open(0, 1), 0);
        check.due("new parts", x.parts(0, 0) + x.parts(0, 1), 0);
        check.due("new left", x.left(0), NONE);
        check.due("new fewest", x.fewest(0, 0) + x.fewest(0, 1), 0);
        check.due("new cheapest", x.cheapest(0, 0) + x.cheapest(0, 1), 0);
        check.due("new exchange", x.exchange(0, 0), NONE);
        check.due("new gain", x.gain(0, 0), NONE);
        check.due("new baker", x.baker(0, 0), NONE);
        check.due("new cut", x.cut(0), 0);
        check.due("new traffic", x.traffic(0) + x.traffic(1) + x.traffic(2), 0);
        check.due("new traffic(3)", x.traffic(3), NONE);
        check.due("new breaks", x.breaks(0, 0) + x.breaks(0, 1), 0);
        check.due("new restore", x.restore(), -1);
        check.due("new counts", x.count(0) + x.count(1) + x.count(2), 0);
        check.throwsOut("new ride", () -> x.ride(0, 0, 0));
        check.throwsNoSuch("new street", () -> x.street(0, 0));
        check.due("new back", x.back(0), 1);
    }

    private void feeding() {
        RightTurns x = new RightTurns();
        for (int i = 1; i <= 25; i++) {
            check.due("feed", x.feed(0x20202020, 0x20202020, 0x20202020, 0x20202020, 0x20202020), 20 * i);
        }
        check.due("feed over 500", x.feed(0, 0, 0, 0, 0), NONE);
        check.due("feed over 500 does nothing", x.count(2), 500);
        check.due("500 blanks", x.town(500), 0);
        check.due("the tape is empty then", x.count(2), 0);
        // the highest byte comes first; only the first 11 count
        x.feed(0x636f726e, 0x65722030, 0x20393b3b, 0xffffffff, 0x80000000);
        check.due("corner 0 9;", x.town(11), 1);
        check.due("the rest is gone, too", x.count(2), 0);
    }

    private void towns() {
        RightTurns x = Texts.townOf(SQUARE + "rider 0 2 3;box 1;");
        x.allow(0, 1, true);
        x.tell(0);
        x.image();
        check.throwsIllegal("town(1) of an empty tape", () -> x.town(1));
        check.throwsIllegal("town(-1)", () -> x.town(-1));
        Texts.feed(x, "corner 0 0;corner 0 0;");
        check.throwsIllegal("town(41) of 40 bytes", () -> x.town(41));
        check.due("the tape stays", x.count(2), 40);
        check.due("faulty town", x.town(22), -8);
        check.due("its place", x.fault(), 20);
        check.due("the tape is empty behind a fault", x.count(2), 0);
        check.due("the town stays", x.told(0), 4);
        check.due("its time stays", x.told(5), 1);
        check.due("its told ride stays", x.count(0), 1);
        check.due("its images stay", x.count(1), 1);
        check.due("a new town", Texts.tell(x, CROSS), 5);
        check.due("without fault", x.fault(), NONE);
        check.due("time 0", x.told(5), 0);
        check.due("no told ride", x.count(0), 0);
        check.due("no images", x.count(1), 0);
        check.due("no riders", x.told(3), 0);
        check.due("no boxes", x.told(2), 0);
        check.due("nothing allowed", x.stands(0, 1, 0, 1), false);
        // each further one, too, has nothing of those before
        Texts.tell(x, SQUARE + "one 1;no 0 1;may 0 1;box 1;rider 0 1 0;");
        Texts.tell(x, CROSS + "one 1;no 0 1;may 0 1;box 1;rider 0 1 0;");
        for (int i = 0; i < 2; i++) {
            Texts.tell(x, SQUARE);
            check.due("boxes told anew", x.told(2), 0);
            check.due("riders told anew", x.told(3), 0);
            check.due("lefts told anew", x.told(4), 4);
            check.due("one way told anew", x.street(1, 3), 0);
            check.due("signs told anew", x.stands(0, 1, 0, 0) || x.stands(0, 1, 0, 1), false);
            check.due("rides told anew", x.ride(2, 1, 0), 10);
            check.due("parts told anew", x.parts(0, 0), 5);
        }
        check.due("empty town", x.town(0), 0);
        check.due("no corners any more", x.told(0), 0);
    }

    private void fault(String text, int kind, int place) {
        RightTurns x = new RightTurns();
        check.due("town " + text, Texts.tell(x, text), kind - 10);
        check.due("fault of " + text, x.fault(), place);
    }

    private void cutFault(String text, int n, int place) {
        RightTurns x = new RightTurns();
        Texts.feed(x, text);
        check.due("town(" + n + ") of " + text, x.town(n), -9);
        check.due("fault of " + n + " of " + text, x.fault(), place);
    }

    private void fine(String text, int corners) {
        RightTurns x = new RightTurns();
        check.due("town " + text, Texts.tell(x, text), corners);
        check.due("fault of " + text, x.fault(), NONE);
    }

    private void faults() {
        fault("corn", 1, 0);
        fault("  cornerx 0 0;", 1, 2);
        fault("cornerz 0 0;", 1, 0);
        fault("acorner 0 0;", 1, 0);
        fault("Corner 0 0;", 1, 0);
        fault(";", 1, 0);
        fault("corner 0 0;;", 1, 11);
        fault("corner", 1, 6);
        fault("corner ", 1, 7);
        fault("corner 0", 1, 8);
        fault("corner 0 0", 1, 10);
        fault("corner 0 0  ", 1, 12);
        fault("corner 0;", 1, 8);
        fault("corner x 0;", 1, 7);
        fault("corner 0 -1;", 1, 9);
        fault("corner 0\t0;", 1, 8);
        fault("corner 0 0 0;", 1, 11);
        fault("corner 0 0,", 1, 10);
        fault("corner 100", 2, 7);
        fault("corner 0 100", 2, 9);
        fault("corner 4294967296 0;", 2, 7);
        fault("corner 99999999999999999999 0;", 2, 7);
        fault("corner 3 4;corner 3 04", 2, 20);
        fault("corner 0 0;corner 1 0;street 0 2 1;", 2, 31);
        fault("corner 0 0;corner 1 0;street 2 0 1;", 2, 29);
        fault("corner 0 0;corner 1 0;street 1 1 1;", 2, 31);
        fault("corner 0 0;corner 1 0;street 0 1 0;", 2, 33);
        fault("corner 0 0;corner 1 0;street 0 1 100;", 2, 33);
        fault("corner 0 0;one 0;", 2, 15);
        fault("corner 0 0;box 1;", 2, 15);
        fault("corner 0 0;corner 1 0;rider 0 0 1;", 2, 30);
        fault("corner 0 0;corner 1 0;rider 0 2 1;", 2, 30);
        fault("corner 0 0;corner 1 0;rider 2 0 1;", 2, 28);
        fault("corner 0 0;corner 1 0;rider 0 1 100;", 2, 32);
        fault(SQUARE + "no 0 2;", 2, SQUARE.length() + 5);
        fault(SQUARE + "may 0 2;", 2, SQUARE.length() + 6);
        fault(SQUARE + "no 0 0;", 2, SQUARE.length() + 5);
        fault(SQUARE + "may 1 1;", 2, SQUARE.length() + 6);
        fault(SQUARE + "no 4 0;", 2, SQUARE.length() + 3);
        fault(SQUARE + "may 0 4;", 2, SQUARE.length() + 6);
        // what stands behind the first n bytes is not looked at
        cutFault("corner 0 0;", 10, 10);
        cutFault("corner 0 0;box 0;", 16, 16);
        cutFault("corner 0 0;boxes", 14, 14);
        cutFault("corner 12 34", 10, 10);
        fine("", 0);
        fine("   ", 0);
        fine("corner0 0;", 1);
        fine(" corner  00000000000000000000099   0 ;  ", 1);
        fine("corner 0 0;corner 0 1;corner 1 0;", 3);
        fine(SQUARE + "street 0 1 99;one 0;one 0;no 0 1;no 0 1;may 0 1;box 0;box 0;rider 3 1 99;", 4);
    }

    private static String corners(int many) {
        StringBuilder text = new StringBuilder();
        for (int i = 0; i < many; i++) {
            text.append("corner ").append(i).append(" 0;");
        }
        return text.toString();
    }

    private void limits() {
        String sixteen = corners(16);
        fine(sixteen, 16);
        fault(sixteen + "corner 0 0;", 3, sixteen.length());
        fault(sixteen + " corner ", 3, sixteen.length() + 1);
        String two = corners(2);
        String streets = two + "street 0 1 1;".repeat(24);
        fine(streets, 2);
        fault(streets + "street 0 1 1;", 3, streets.length());
        String riders = two + "rider 0 1 1;".repeat(12);
        fine(riders, 2);
        fault(riders + "rider 0 0", 3, riders.length());
        StringBuilder boxes = new StringBuilder(corners(11));
        for (int i = 0; i < 10; i++) {
            fine(boxes + "box 0;", 11);
            boxes.append("box ").append(i).append(';');
        }
        fine(boxes.toString(), 11);
        fault(boxes + "box 10;", 3, boxes.length());
        fault(boxes + "box 0;", 3, boxes.length());
        String clauses = "corner 0 0;" + "box 0;".repeat(59);
        fine(clauses + "  ", 1);
        fault(clauses + "box 0;", 3, clauses.length());
        fault(clauses + "bax 0;", 1, clauses.length());
        fault(clauses + " ;", 1, clauses.length() + 1);
    }

    private void toldAndStreet() {
        RightTurns x = Texts.townOf(SQUARE + "street 2 0 7;one 4;box 1;box 3;box 1;rider 0 1 2;");
        check.due("corners", x.told(0), 4);
        check.due("streets", x.told(1), 5);
        check.due("boxes", x.told(2), 2);
        check.due("riders", x.told(3), 1);
        check.due("time", x.told(5), 0);
        x.back(0);
        check.due("time then", x.told(5), 1);
        check.due("A", x.street(4, 0), 2);
        check.due("B", x.street(4, 1), 0);
        check.due("N", x.street(4, 2), 7);
        check.due("one way", x.street(4, 3), 1);
        check.due("not one way", x.street(3, 3), 0);
        check.throwsIllegal("told(-1)", () -> x.told(-1));
        check.throwsIllegal("told(6)", () -> x.told(6));
        check.throwsNoSuch("street(5, 9)", () -> x.street(5, 9));
        check.throwsNoSuch("street(-1, 0)", () -> x.street(-1, 0));
        check.throwsIllegal("street(0, 4)", () -> x.street(0, 4));
        check.throwsIllegal("street(0, -1)", () -> x.street(0, -1));
    }

    private void turns() {
        RightTurns x = Texts.townOf(CROSS + "street 1 0 5;");
        check.due("back on the same street", x.turn(0, 1), 0);
        check.due("back on another one", x.turn(0, 8), 0);
        check.due("right", x.turn(1, 2), 1);
        check.due("straight", x.turn(1, 4), 2);
        check.due("left", x.turn(1, 6), 3);
        check.due("not there", x.turn(0, 2), NONE);
        check.due("into itself", x.turn(0, 0), NONE);
        check.due("may right", x.may(1, 2, 0), true);
        check.due("may straight", x.may(1, 4, 0), true);
        check.due("may not left", x.may(1, 6, 0), false);
        check.due("may not back", x.may(0, 1, 0), false);
        check.due("may not be there", x.may(0, 2, 0), false);
        check.throwsNoSuch("turn(0, 10)", () -> x.turn(0, 10));
        check.throwsNoSuch("turn(-1, 0)", () -> x.turn(-1, 0));
        check.throwsNoSuch("may(10, 0, 9)", () -> x.may(10, 0, 9));
        check.throwsIllegal("may(0, 0, 1)", () -> x.may(0, 0, 1));
        RightTurns slanting = Texts.townOf("corner 0 0;corner 2 1;corner 4 2;corner 6 4;corner 6 2;"
                + "street 0 1 1;street 1 2 1;street 2 3 1;street 2 4 1;one 3;");
        check.due("straight on a slope", slanting.turn(0, 2), 2);
        check.due("slightly left", slanting.turn(2, 4), 3);
        check.due("slightly right", slanting.turn(2, 6), 1);
        check.throwsNoSuch("one way has no arc back", () -> slanting.turn(7, 0));
    }

    private void signsAndLeave() {
        RightTurns x = Texts.townOf(CROSS + "no 0 1;may 0 3;may 0 1;");
        check.due("told sign", x.may(1, 2, 0), false);
        check.due("told leave", x.may(1, 6, 0), true);
        check.due("stands sign", x.stands(0, 1, 0, 0), true);
        check.due("stands no sign", x.stands(1, 0, 0, 0), false);
        check.due("stands leave", x.stands(0, 3, 0, 1), true);
        check.due("stands no leave", x.stands(3, 0, 0, 1), false);
        check.due("of one street", x.stands(0, 0, 0, 0), false);
        check.due("sign up", x.sign(0, 3, true), 1);
        check.due("a sign is above leave", x.may(1, 6, 1), false);
        check.due("sign down", x.sign(0, 1, false), 2);
        check.due("right again", x.may(1, 2, 2), true);
        check.due("not before", x.may(1, 2, 1), false);
        check.due("down already", x.sign(0, 1, false), -2);
        check.due("allowed already", x.allow(0, 3, true), -2);
        check.due("forbid", x.allow(0, 3, false), 3);
        check.due("forbidden already", x.allow(0, 3, false), -2);
        check.due("nothing was changed by those", x.told(5), 3);
        check.throwsNoSuch("sign(0, 4, ..)", () -> x.sign(0, 4, true));
        check.throwsNoSuch("allow(-1, -1, ..)", () -> x.allow(-1, -1, true));
        check.throwsIllegal("sign(1, 1, ..)", () -> x.sign(1, 1, true));
        check.throwsIllegal("allow(1, 1, ..)", () -> x.allow(1, 1, true));
        check.throwsNoSuch("stands(4, 0, 9, 9)", () -> x.stands(4, 0, 9, 9));
        check.throwsIllegal("stands what", () -> x.stands(0, 1, 0, 2));
        check.throwsIllegal("stands time", () -> x.stands(0, 1, 4, 0));
        RightTurns square = Texts.townOf(SQUARE);
        check.throwsIllegal("no corner in common", () -> square.sign(0, 2, true));
        check.throwsIllegal("no corner in common, either", () -> square.allow(1, 3, true));
        // what is told of two streets holds for all turns between them
        RightTurns pair = Texts.townOf("corner 0 0;corner 5 0;street 0 1 3;street 0 1 4;");
        check.due("sign between a pair", pair.sign(0, 1, true), 1);
        check.due("one way of them alone", pair.stands(1, 0, 1, 0), false);
    }

    private void changesAndTimes() {
        RightTurns x = Texts.townOf(SQUARE);
        check.due("1", x.allow(0, 1, true), 1);
        check.due("2", x.sign(3, 2, true), 2);
        check.due("3", x.back(1), 3);
        check.due("as at 1: allowed", x.stands(0, 1, 3, 1), true);
        check.due("as at 1: no sign", x.stands(3, 2, 3, 0), false);
        check.due("4", x.allow(1, 2, true), 4);
        check.due("5", x.back(2), 5);
        check.due("as at 2", x.stands(3, 2, 5, 0) && x.stands(0, 1, 5, 1) && !x.stands(1, 2, 5, 1), true);
        check.due("back to now is a change, too", x.back(5), 6);
        check.due("as at 0", x.back(0), 7);
        check.due("nothing then", x.stands(3, 2, 7, 0) || x.stands(0, 1, 7, 1), false);
        check.due("4 as it was", x.stands(1, 2, 4, 1) && x.stands(0, 1, 4, 1), true);
        check.throwsIllegal("back(8)", () -> x.back(8));
        check.throwsIllegal("back(-1)", () -> x.back(-1));
        for (int i = 8; i <= 200; i++) {
            check.due("change " + i, x.allow(0, 1, i % 2 == 0), i);
        }
        check.due("no 201st leave", x.allow(0, 1, false), -1);
        check.due("nor one that is so already", x.allow(0, 1, true), -1);
        check.due("no 201st sign", x.sign(0, 1, true), -1);
        check.due("no 201st return", x.back(0), -1);
        check.throwsIllegal("no such time, though full", () -> x.back(201));
        check.throwsIllegal("one street, though full", () -> x.sign(0, 0, true));
        check.due("time 200", x.told(5), 200);
        check.due("at 200", x.stands(0, 1, 200, 1), true);
        check.due("at 199", x.stands(0, 1, 199, 1), false);
    }

    private void rides() {
        RightTurns x = Texts.townOf(SQUARE + "street 0 1 10;street 0 1 9;");
        check.due("the shortest of three", x.ride(0, 1, 0), 9);
        check.due("its arc", x.step(0, 1, 0, 0), 10);
        check.due("round by right turns", x.ride(0, 2, 0), 20);
        check.due("step 0", x.step(0, 2, 0, 0), 7);
        check.due("step 1", x.step(0, 2, 0, 1), 5);
        check.due("step 2", x.step(0, 2, 0, 2), NONE);
        check.due("step -1", x.step(0, 2, 0, -1), NONE);
        check.due("to itself", x.ride(2, 2, 0), 0);
        check.due("to itself, no arc", x.step(2, 2, 0, 0), NONE);
        x.sign(5, 3, true);
        x.sign(4, 1, true);
        // from 2 to 0 by corner 1: arc 3, then arc 1 (0), 9 or 11; right turns all
        check.due("two of a length: the first by arcs", x.step(2, 0, 2, 0), 3);
        check.due("the shorter street", x.step(2, 0, 2, 1), 11);
        x.sign(1, 5, true);
        check.due("a sign against that", x.ride(2, 0, 3), 20);
        check.due("of two equal ones the first", x.step(2, 0, 3, 1), 1);
        check.due("as it was", x.ride(2, 0, 2), 19);
        RightTurns hook = Texts.townOf(TWO_HOOKS);
        check.due("no ride by a left turn", hook.ride(0, 2, 0), NONE);
        check.due("no step of no ride", hook.step(0, 2, 0, 0), NONE);
        check.due("no street at all", hook.ride(0, 4, 0), NONE);
        check.due("the other way", hook.ride(3, 0, 0), 15);
        check.throwsOut("ride(0, 7, 9)", () -> hook.ride(0, 7, 9));
        check.throwsOut("ride(-1, 0, 0)", () -> hook.ride(-1, 0, 0));
        check.throwsIllegal("ride(0, 0, 1)", () -> hook.ride(0, 0, 1));
        check.throwsOut("step(7, 0, 9, 0)", () -> hook.step(7, 0, 9, 0));
        check.throwsIllegal("step(0, 1, -1, 0)", () -> hook.step(0, 1, -1, 0));
        // round the block instead of turning left: east, then right, right, right, and straight on north
        RightTurns block = Texts.townOf("corner 0 5;corner 5 5;corner 9 5;corner 9 1;corner 5 1;corner 5 9;"
                + "street 0 1 3;street 1 2 3;street 2 3 3;street 3 4 3;street 4 1 3;street 1 5 3;");
        check.due("round the block", block.ride(0, 5, 0), 18);
        check.due("passing a corner twice", block.step(0, 5, 0, 4), 8);
    }

    private void reaching() {
        RightTurns x = Texts.townOf(TWO_HOOKS);
        check.due("reached", x.reach(0, 0, 0), 0b0000011);
        check.due("home", x.reach(0, 0, 1), 0b0001111);
        check.due("lost", x.reach(0, 0, 2), 0);
        check.due("reached from 1", x.reach(1, 0, 0), 0b0001111);
        check.due("reached from 3", x.reach(3, 0, 0), 0b0001111);
        check.due("home of 3", x.reach(3, 0, 1), 0b0001110);
        check.due("lost of 3", x.reach(3, 0, 2), 1);
        x.allow(0, 1, true);
        check.due("reached then", x.reach(0, 1, 0), 0b0001111);
        check.due("lost then", x.reach(3, 1, 2), 0);
        check.throwsOut("reach(7, 9, 9)", () -> x.reach(7, 9, 9));
        check.throwsIllegal("reach what", () -> x.reach(0, 0, 3));
        check.throwsIllegal("reach time", () -> x.reach(0, 2, 0));
        RightTurns alone = Texts.townOf("corner 4 4;");
        check.due("itself", alone.reach(0, 0, 0), 1);
        check.due("home itself", alone.reach(0, 0, 1), 1);
        check.due("none lost", alone.reach(0, 0, 2), 0);
    }

    private void partsOfTowns() {
        RightTurns x = Texts.townOf(SQUARE);
        check.due("one round, four alone", x.parts(0, 0), 5);
        check.due("the round", x.parts(0, 1), 4);
        check.due("in the round", x.together(7, 3, 0), true);
        check.due("not in it", x.together(7, 0, 0), false);
        check.due("with itself", x.together(0, 0, 0), true);
        for (int s = 0; s < 4; s++) {
            x.allow(s, (s + 1) % 4, true);
        }
        check.due("two rounds", x.parts(4, 0), 2);
        check.due("then together", x.together(0, 4, 4), true);
        check.due("not before", x.together(0, 4, 3), false);
        check.throwsNoSuch("together(8, 0, 9)", () -> x.together(8, 0, 9));
        check.throwsIllegal("together time", () -> x.together(0, 0, 5));
        check.throwsIllegal("parts what", () -> x.parts(0, 2));
        check.throwsIllegal("parts time", () -> x.parts(-1, 0));
        RightTurns oneWay = Texts.townOf(SQUARE + "one 0;one 1;one 2;one 3;");
        check.due("one way: four arcs", oneWay.parts(0, 0), 4);
        check.due("each alone", oneWay.parts(0, 1), 1);
    }

    private void openness() {
        RightTurns x = Texts.townOf(CROSS);
        check.due("not open", x.open(0, 0), 0);
        check.due("pairs", x.open(0, 1), 16);
        x.allow(0, 3, true);
        x.allow(1, 0, true);
        x.allow(2, 1, true);
        check.due("still not", x.open(3, 0), 0);
        check.due("pairs then", x.open(3, 1), 19);
        x.allow(3, 2, true);
        check.due("open", x.open(4, 0), 1);
        check.due("all pairs", x.open(4, 1), 20);
        check.due("one corner", Texts.townOf("corner 0 0;").open(0, 0), 1);
        check.due("two without a street", Texts.townOf("corner 0 0;corner 1 0;").open(0, 0), 0);
        check.throwsIllegal("open what", () -> x.open(0, 2));
        check.throwsIllegal("open time", () -> x.open(5, 0));
    }

    private void sinceWhen() {
        RightTurns x = Texts.townOf(TWO_HOOKS);
        x.allow(3, 4, true);
        x.allow(0, 1, true);
        x.sign(0, 1, true);
        x.sign(0, 1, false);
        check.due("reached since 2", x.since(0, 2, 0, true), 2);
        check.due("from 2 on", x.since(0, 2, 2, true), 2);
        check.due("from 3 on", x.since(0, 2, 3, true), 4);
        check.due("not reached at once", x.since(0, 2, 0, false), 0);
        check.due("not reached again", x.since(0, 2, 2, false), 3);
        check.due("always so since", x.since(0, 2, 4, false), NONE);
        check.due("never", x.since(0, 4, 0, true), NONE);
        check.due("itself", x.since(5, 5, 3, true), 3);
        check.due("itself never not", x.since(5, 5, 0, false), NONE);
        check.due("the other way always", x.since(2, 0, 1, true), 1);
        check.throwsOut("since(0, 7, 9, ..)", () -> x.since(0, 7, 9, true));
        check.throwsIllegal("since time", () -> x.since(0, 1, 5, true));
    }

    private void leftTurns() {
        RightTurns x = Texts.townOf(CROSS);
        check.due("left turns", x.told(4), 4);
        int[] all = {3, 100, 201, 302};
        for (int k = 0; k < 4; k++) {
            check.due("left " + k, x.left(k), all[k]);
        }
        check.due("left(4)", x.left(4), NONE);
        check.due("left(-1)", x.left(-1), NONE);
        check.due("candidates", x.candidates(0), 4);
        x.allow(0, 3, true);
        x.sign(1, 0, true);
        check.due("one allowed", x.candidates(1), 3);
        check.due("one with a sign", x.candidates(2), 2);
        check.due("left turns stay", x.told(4), 4);
        check.throwsIllegal("candidates time", () -> x.candidates(3));
        RightTurns oneWay = Texts.townOf(CROSS + "one 0;one 1;");
        check.due("no left turn out of what nobody comes in by", oneWay.told(4), 2);
        StringBuilder fan = new StringBuilder("corner 50 50;");
        for (int i = 0; i < 8; i++) {
            fan.append("corner ").append(10 * i).append(" 99;street 0 ").append(i + 1).append(" 5;");
        }
        RightTurns many = Texts.townOf(fan.toString());
        check.due("a fan's left turns", many.told(4), 28);
        check.due("14 count", many.candidates(0), 14);
    }

    private void opening() {
        RightTurns x = Texts.townOf(CROSS);
        check.due("all four", x.fewest(0, 0), 4);
        check.due("their bits", x.fewest(0, 1), 15);
        check.due("what they cost", x.cheapest(0, 0), 24);
        check.due("their bits, too", x.cheapest(0, 1), 15);
        x.allow(1, 0, true);
        check.due("three of those left", x.fewest(1, 0), 3);
        check.due("bits among candidates", x.fewest(1, 1), 7);
        check.due("cheaper", x.cheapest(1, 0), 20);
        x.sign(2, 1, true);
        check.due("not by all", x.fewest(2, 0), NONE);
        check.due("no bits", x.fewest(2, 1), NONE);
        check.due("no cost", x.cheapest(2, 0), NONE);
        check.due("no bits, either", x.cheapest(2, 1), NONE);
        check.throwsIllegal("fewest what", () -> x.fewest(0, 2));
        check.throwsIllegal("fewest time", () -> x.fewest(3, 0));
        check.throwsIllegal("cheapest what", () -> x.cheapest(0, -1));
        check.throwsIllegal("cheapest time", () -> x.cheapest(3, 0));
        // a dear street and a cheap one lead to the same left turn
        check.due("asked for first", Texts.townOf(CROSS).cheapest(0, 1), 15);
        RightTurns ways = Texts.townOf("corner 0 0;corner 5 0;corner 5 5;street 0 1 99;street 0 1 2;street 1 2 3;");
        check.due("two ways", ways.candidates(0), 2);
        check.due("one is enough", ways.fewest(0, 0), 1);
        check.due("the least bits", ways.fewest(0, 1), 1);
        check.due("the cheap one", ways.cheapest(0, 0), 1);
        check.due("is the other", ways.cheapest(0, 1), 2);
    }

    private void exchanging() {
        RightTurns x = Texts.townOf(TWO_HOOKS + "may 3 4;");
        check.due("pairs", x.open(0, 1), 16);
        check.due("exchange", x.exchange(0, 0), 1000);
        check.due("pairs then", x.exchange(0, 1), 17);
        x.sign(3, 4, true);
        check.due("what has a sign is not forbidden", x.exchange(1, 0), NONE);
        check.due("pairs as it is", x.exchange(1, 1), 15);
        x.back(0);
        x.sign(0, 1, true);
        check.due("what has a sign is not allowed instead", x.exchange(3, 0), NONE);
        check.throwsIllegal("exchange what", () -> x.exchange(0, 2));
        check.throwsIllegal("exchange time", () -> x.exchange(4, 0));
        RightTurns even = Texts.townOf(CROSS + "may 0 3;");
        check.due("as many is not more", even.exchange(0, 0), NONE);
        check.due("as it is", even.exchange(0, 1), 17);
    }

    private void letterBoxes() {
        RightTurns x = Texts.townOf(SQUARE + "box 1;box 2;");
        check.due("round the block", x.round(0, 0), 40);
        check.due("from a box", x.round(1, 0), 40);
        check.due("bound of three", x.bound(0, 0), 40);
        check.due("bound of two", x.bound(1, 0), 20);
        RightTurns none = Texts.townOf(SQUARE + "box 3;");
        check.due("no box but there", none.round(3, 0), 0);
        check.due("but one", none.bound(3, 0), 0);
        check.due("there and back: only round", none.round(0, 0), 40);
        check.due("bound there and back", none.bound(0, 0), 20);
        RightTurns dead = Texts.townOf(CROSS + "box 3;");
        check.due("nobody turns at a dead end", dead.round(0, 0), NONE);
        check.due("the bound does not see that", dead.bound(0, 0), 60);
        check.due("from 4 there is no ride to 3", dead.bound(4, 0), NONE);
        RightTurns ring = Texts.townOf(Texts.ring("box 0;box 1;box 2;box 3;box 4;box 5;box 6;box 7;box 8;box 9;"));
        check.due("ten boxes and home", ring.round(10, 0), 11);
        check.due("nine others", ring.round(3, 0), 11);
        check.due("the bound of eleven", ring.bound(10, 0), 11);
        check.due("the bound of ten", ring.bound(3, 0), 10);
        ring.sign(4, 5, true);
        check.due("nobody gets round", ring.round(10, 1), NONE);
        check.due("the bound as before", ring.bound(10, 1), 11);
        check.throwsOut("round(5, 9)", () -> dead.round(5, 9));
        check.throwsIllegal("round time", () -> dead.round(0, 1));
        check.throwsOut("bound(-1, 9)", () -> dead.bound(-1, 9));
        check.throwsIllegal("bound time", () -> dead.bound(0, 1));
    }

    private void traffic() {
        RightTurns x = Texts.townOf(CROSS + "rider 1 3 0;rider 2 4 0;rider 1 3 10;rider 3 2 1;rider 0 1 0;");
        // 0 at the middle in 10; 3 would turn left there
        check.due("straight through", x.home(0), 40);
        check.due("the second street", x.home(1), 60);
        check.due("one without a ride", x.home(3), NONE);
        check.due("all home", x.traffic(1), 4);
        check.due("1 came in 20 as did 2", x.traffic(2), 1);
        check.due("2 waits", x.traffic(3), 2);
        check.due("a round later", x.home(2), 51);
        check.due("rounds", x.traffic(0), 61);
        check.due("counts of 0", x.counts(0), 3);
        check.due("counts of 3", x.counts(3), 1);
        check.due("counts of 1", x.counts(1), 1);
        x.allow(2, 1, true);
        check.due("then it rides", x.home(3), 51);
        check.due("counts as the town is now", x.counts(1), 2);
        check.throwsIllegal("home(5)", () -> x.home(5));
        check.throwsIllegal("home(-1)", () -> x.home(-1));
        check.throwsIllegal("traffic(4)", () -> x.traffic(4));
        check.throwsIllegal("traffic(-1)", () -> x.traffic(-1));
        check.throwsNoSuch("counts(4)", () -> x.counts(4));
        check.throwsNoSuch("counts(-1)", () -> x.counts(-1));
        // three to one corner at once: they go home one by one; the last waits longest
        RightTurns queue = Texts.townOf(CROSS + "rider 1 0 0;rider 1 0 0;rider 1 0 0;rider 2 0 1;");
        check.due("first", queue.home(0), 10);
        check.due("second", queue.home(1), 11);
        check.due("third", queue.home(2), 12);
        check.due("who comes later", queue.home(3), 21);
        check.due("waits", queue.traffic(2), 3);
        check.due("who waits most", queue.traffic(3), 2);
        check.due("rounds, too", queue.traffic(0), 22);
        // who came earlier goes first, whatever its number
        RightTurns order = Texts.townOf(CROSS + "rider 1 0 2;rider 1 0 1;rider 1 0 1;");
        check.due("in 11", order.home(1), 11);
        check.due("in 12, as it came before", order.home(2), 12);
        check.due("in 13", order.home(0), 13);
        check.due("of two that wait once the first", order.traffic(3), 0);
        RightTurns away = Texts.townOf(CROSS + "rider 1 4 0;");
        check.due("nobody rides", away.traffic(0), 0);
        check.due("nobody is home", away.traffic(1), 0);
        check.due("nobody waits", away.traffic(3), NONE);
    }

    private void longTraffic() {
        StringBuilder line = new StringBuilder(corners(12));
        for (int i = 0; i < 11; i++) {
            line.append("street ").append(i).append(' ').append(i + 1).append(" 99;");
        }
        RightTurns x = Texts.townOf(line + "rider 0 10 8;rider 0 10 9;rider 0 11 0;rider 1 0 99;");
        check.due("home in the last round", x.home(0), 998);
        check.due("too late by one", x.home(1), NONE);
        check.due("much too late", x.home(2), NONE);
        check.due("begins late", x.home(3), 198);
        check.due("999 rounds", x.traffic(0), 999);
        check.due("two are home", x.traffic(1), 2);
        check.due("counts all the same", x.counts(9), 3);
    }

    private void toldRides() {
        RightTurns x = Texts.townOf(SQUARE + "street 1 0 3;");
        check.due("tell 0", x.tell(0), 1);
        check.due("one corner: 0", x.breaks(0, 0), 0);
        check.due("one corner: no ways", x.breaks(0, 1), 0);
        check.due("tell 1", x.tell(1), 2);
        check.due("one street breaks nothing", x.breaks(0, 0), 0);
        check.due("two ways", x.breaks(0, 1), 2);
        x.tell(2);
        check.due("a left turn", x.breaks(0, 0), 1);
        check.due("either way", x.breaks(0, 1), 2);
        x.allow(4, 1, true);
        check.due("none then", x.breaks(1, 0), 0);
        check.due("one way then", x.breaks(1, 1), 1);
        x.tell(1);
        check.due("and back", x.breaks(0, 0), 2);
        check.due("back and the left turn allowed", x.breaks(1, 0), 1);
        check.due("corners", x.count(0), 4);
        x.tell(3);
        check.due("no street from 1 to 3", x.breaks(0, 0), NONE);
        check.due("no ways, either", x.breaks(0, 1), NONE);
        check.due("forget", x.forget(), 5);
        check.due("forgotten", x.count(0), 0);
        check.due("forget nothing", x.forget(), 0);
        for (int i = 1; i <= 12; i++) {
            check.due("tell " + i, x.tell(i % 2), i);
        }
        check.due("a 13th", x.tell(0), -1);
        check.due("stays 12", x.count(0), 12);
        check.due("to and fro", x.breaks(0, 0), 10);
        check.due("2 to the 11th ways", x.breaks(0, 1), 2048);
        check.throwsOut("tell(4), though full", () -> x.tell(4));
        check.throwsOut("tell(-1)", () -> x.tell(-1));
        check.throwsIllegal("breaks what", () -> x.breaks(0, 2));
        check.throwsIllegal("breaks time", () -> x.breaks(2, 0));
        RightTurns oneWay = Texts.townOf(SQUARE + "one 0;");
        oneWay.tell(1);
        oneWay.tell(0);
        check.due("no arc against one way", oneWay.breaks(0, 0), NONE);
        RightTurns wide = Texts.townOf(corners(2) + "street 0 1 1;".repeat(24));
        for (int i = 0; i < 12; i++) {
            wide.tell(i % 2);
        }
        check.due("24 to the 11th ways", wide.breaks(0, 1), 1521681143169024L);
    }

    private void surePairs() {
        RightTurns x = Texts.townOf(SQUARE + "street 1 0 3;");
        check.due("no told ride", x.sure(0, 0), NONE);
        x.tell(0);
        x.tell(1);
        check.due("nothing breaks", x.sure(0, 0), NONE);
        x.tell(2);
        check.due("in each way another pair", x.sure(0, 0), NONE);
        x.tell(3);
        check.due("that turn in each", x.sure(0, 0), 102);
        check.due("no more", x.sure(0, 1), NONE);
        check.due("k below 0", x.sure(0, -1), NONE);
        x.allow(0, 1, true);
        check.due("allowed: the same one left", x.sure(1, 0), 102);
        x.tell(2);
        check.due("back into the same street is a pair", x.sure(0, 1), 202);
        check.due("and no other", x.sure(0, 2), NONE);
        x.tell(0);
        check.due("no street there", x.sure(0, 0), NONE);
        check.throwsIllegal("sure time", () -> x.sure(2, 0));
        RightTurns round = Texts.townOf(SQUARE);
        for (int corner : new int[] {2, 3, 0, 1, 2}) {
            round.tell(corner);
        }
        int[] pairs = {1, 203, 300, NONE};
        for (int k = 0; k < 4; k++) {
            check.due("by S, then T " + k, round.sure(0, k), pairs[k]);
        }
        round.forget();
        round.tell(0);
        round.tell(1);
        round.tell(2);
        check.due("the first turn", round.sure(0, 0), 1);
        // the first leg is 0, the last 1, so 0 turns into 1 in each way, now at the one end, now at the other
        RightTurns pair = Texts.townOf("corner 5 5;corner 9 5;corner 1 5;corner 13 5;"
                + "street 0 1 2;street 0 1 2;street 2 0 2;street 1 3 2;no 2 1;no 0 3;");
        for (int corner : new int[] {2, 0, 1, 0, 1, 3}) {
            pair.tell(corner);
        }
        check.due("two turns back", pair.breaks(0, 0), 2);
        check.due("two ways", pair.breaks(0, 1), 2);
        check.due("0 into 1 in each", pair.sure(0, 0), 1);
        check.due("no other", pair.sure(0, 1), NONE);
    }

    private void cuts() {
        RightTurns x = Texts.townOf(SQUARE + "corner 50 50;street 0 4 4;one 4;");
        check.due("4 is a trap", x.cut(0), 16);
        RightTurns y = Texts.townOf(corners(5) + "street 0 1 1;street 2 3 1;");
        check.due("the corner alone", y.cut(0), 16);
        RightTurns z = Texts.townOf(corners(4) + "street 0 1 1;street 2 3 1;");
        check.due("of two pairs the least", z.cut(0), 3);
        RightTurns crosswise = Texts.townOf(corners(6) + "street 0 5 1;street 1 2 1;street 3 4 1;street 2 3 1;"
                + "street 5 0 1;");
        check.due("the smaller one, whatever its bits", crosswise.cut(0), 33);
        RightTurns pairs = Texts.townOf(corners(6) + "street 0 5 1;street 1 2 1;street 3 4 1;");
        check.due("of three pairs the least", pairs.cut(0), 6);
        check.due("one part: none", Texts.townOf(SQUARE).cut(0), 0);
        check.due("one corner: none", Texts.townOf("corner 0 0;").cut(0), 0);
        // 0 does not reach 2, but 1 does, and 0 reaches 1: a set with 0 has all
        check.due("by way of others", Texts.townOf("corner 0 0;corner 1 0;corner 1 1;street 0 1 1;street 1 2 1;").cut(0), 0);
        check.throwsIllegal("cut time", () -> z.cut(1));
    }

    private void detours() {
        RightTurns block = Texts.townOf("corner 0 5;corner 5 5;corner 9 5;corner 9 1;corner 5 1;corner 5 9;"
                + "street 0 1 3;street 1 2 3;street 2 3 3;street 3 4 3;street 4 1 3;street 1 5 3;");
        check.due("round the block", block.detour(0, 5, 0), 12);
        check.due("none", block.detour(0, 2, 0), 0);
        check.due("to itself", block.detour(3, 3, 0), 0);
        block.sign(0, 1, true);
        check.due("no ride", block.detour(0, 5, 1), NONE);
        block.allow(0, 5, true);
        check.due("left is allowed", block.detour(0, 5, 2), 0);
        block.sign(0, 5, true);
        check.due("and has a sign", block.detour(0, 5, 3), NONE);
        check.throwsOut("detour(0, 6, 9)", () -> block.detour(0, 6, 9));
        check.throwsIllegal("detour time", () -> block.detour(0, 0, 4));
    }

    private void gains() {
        RightTurns x = Texts.townOf("corner 0 5;corner 5 5;corner 9 5;corner 9 1;corner 5 1;corner 5 9;"
                + "street 0 1 3;street 1 2 3;street 2 3 3;street 3 4 3;street 4 1 3;street 1 5 3;"
                + "rider 0 5 0;rider 0 2 50;rider 5 2 0;");
        // lefts: 0 into 5, 1 into 4, 2 into 1, 3 into 2, 4 into 0, 4 into 3, 5 into 1
        check.due("lefts", x.told(4), 7);
        check.due("one more can ride: 5 into 1", x.gain(0, 0), 6);
        check.due("with that", x.gain(0, 1), 18 + 6 + 6);
        x.allow(5, 1, true);
        check.due("then the shorter way", x.gain(1, 0), 0);
        check.due("together", x.gain(1, 1), 18);
        x.allow(0, 5, true);
        check.due("none is better", x.gain(2, 0), NONE);
        check.due("as it is", x.gain(2, 1), 18);
        check.throwsIllegal("gain what", () -> x.gain(0, 2));
        check.throwsIllegal("gain time", () -> x.gain(3, 0));
    }

    private void bakers() {
        RightTurns x = Texts.townOf(corners(4) + "street 0 1 1;street 1 2 1;street 2 3 1;");
        check.due("the middle street", x.baker(0, 0), 1);
        check.due("by eight", x.baker(0, 1), 8);
        x.sign(0, 1, true);
        x.sign(1, 0, true);
        check.due("of two the first", x.baker(2, 0), 1);
        check.due("by four", x.baker(2, 1), 4);
        x.sign(1, 2, true);
        x.sign(2, 1, true);
        check.due("all alike: the first", x.baker(4, 0), 0);
        check.due("by two", x.baker(4, 1), 2);
        RightTurns none = Texts.townOf(corners(4));
        check.due("no rides", none.baker(0, 0), NONE);
        check.due("none pass", none.baker(0, 1), 0);
        check.throwsIllegal("baker what", () -> x.baker(0, 2));
        check.throwsIllegal("baker time", () -> x.baker(5, 0));
    }

    private void images() {
        RightTurns x = Texts.townOf(SQUARE);
        check.due("none", x.restore(), -1);
        x.allow(0, 1, true);
        x.tell(2);
        check.due("first", x.image(), 1);
        x.allow(1, 2, true);
        x.forget();
        x.tell(3);
        x.tell(0);
        check.due("second", x.image(), 2);
        check.due("third", x.image(), 3);
        check.due("no fourth", x.image(), -1);
        check.due("three", x.count(1), 3);
        x.back(0);
        check.due("two left", x.restore(), 2);
        check.due("time 2", x.told(5), 2);
        check.due("one left", x.restore(), 1);
        x.sign(2, 3, true);
        check.due("time 3, another one", x.stands(2, 3, 3, 0), true);
        check.due("none left", x.restore(), 0);
        check.due("time 1", x.told(5), 1);
        check.due("told ride of one", x.count(0), 1);
        check.throwsIllegal("time 2 is gone", () -> x.open(2, 0));
        check.due("allowed then", x.stands(0, 1, 1, 1), true);
        check.due("that comes anew", x.allow(2, 3, true), 2);
        check.due("not what was at 2 before", x.stands(1, 2, 2, 1), false);
        x.tell(1);
        check.due("the told ride goes on with 2, 1", x.breaks(0, 1), 1);
        check.due("images", x.count(1), 0);
        check.due("count(3)", x.count(3), NONE);
        check.due("count(-1)", x.count(-1), NONE);
        x.feed(1, 2, 3, 4, 5);
        check.due("tape", x.count(2), 20);
        x.image();
        x.town(0);
        check.due("a town has no images", x.restore(), -1);
    }

    private void wrongInputs() {
        int[] odd = {Integer.MIN_VALUE, -2, -1, 4, 8, 47, 48, 64, 200, Integer.MAX_VALUE};
        RightTurns x = Texts.townOf(SQUARE);
        for (int o : odd) {
            check.throwsOut("corner", () -> x.ride(o, 0, 0));
            check.throwsOut("corner", () -> x.reach(o, 0, 0));
            check.throwsOut("corner", () -> x.round(o, 0));
            check.throwsOut("corner", () -> x.tell(o));
            check.throwsNoSuch("street", () -> x.street(o, 0));
            check.throwsNoSuch("street", () -> x.sign(0, o, true));
            check.throwsNoSuch("street", () -> x.counts(o));
            check.throwsIllegal("time", () -> x.open(o, 0));
            check.throwsIllegal("time", () -> x.since(0, 0, o, true));
            check.throwsIllegal("what", () -> x.fewest(0, o));
            check.throwsIllegal("rider", () -> x.home(o));
            check.throwsIllegal("bytes", () -> x.town(o));
            check.due("left", x.left(o), NONE);
            check.due("step", x.step(0, 2, 0, o), NONE);
            check.due("sure", x.sure(0, o), NONE);
            check.due("count", x.count(o), NONE);
            if (o != 4) {
                check.throwsNoSuch("arc", () -> x.turn(o, 0));
                check.throwsNoSuch("arc", () -> x.together(0, o, 0));
            }
        }
    }
}
