import java.util.List;

/** The bounds of what is asked of streets, arcs, turns and changes, and of images: sentence by sentence. */
public final class ChangeBoundsTest {
    private static final int NONE = RightTurns.NONE;

    /** Arcs 0, 2, 4, 6 go round by left turns, 7, 5, 3, 1 by right ones. */
    private static final String SQUARE = "corner0 0;corner9 0;corner9 9;corner0 9;"
            + "street0 1 9;street1 2 8;street2 3 7;street3 0 6;";

    /** All that there may be of corners and streets: a row to and fro, and eight streets more at its beginning. */
    private static final String FULL = fullTown();

    private final Check check = new Check();

    public static void main(String[] args) {
        ChangeBoundsTest test = new ChangeBoundsTest();
        test.told();
        test.toldAtMost();
        test.streets();
        test.arcs();
        test.oneWayArcs();
        test.kindsOfTurn();
        test.turnsBack();
        test.turnNone();
        test.turnNoSuch();
        test.ridden();
        test.mayTimes();
        test.ofStreets();
        test.soAlready();
        test.twoHundred();
        test.eachTime();
        test.backTo();
        test.backTwoHundred();
        test.signRefused();
        test.signAnswers();
        test.allowLikewise();
        test.stands();
        test.images();
        test.imagesFull();
        test.restored();
        test.restoredNone();
        test.counts();
        test.check.end();
    }

    private static String fullTown() {
        StringBuilder text = new StringBuilder(Texts.row(16));
        for (int i = 0; i < 15; i++) {
            text.append("street").append(i).append(' ').append(i + 1).append(" 1;");
        }
        return text + "street0 1 2;".repeat(9);
    }

    private void told() {
        check.says(5, "0 CORNERS, 1 STREETS, 2 boxes, 3 RIDERS, 4 LEFT TURNS, 5 time");
        int[] due = {4, 5, 2, 3, 6, 1};
        RightTurns x = Texts.townOf(SQUARE + "street0 2 5;one4;box1;box3;rider0 1 0;rider1 0 0;rider0 2 0;");
        x.allow(0, 1, true);
        for (int what = 0; what <= 5; what++) {
            check.due("told(" + what + ")", x.told(what), due[what]);
        }
        check.says(5, "IllegalArgumentException: another what (so below)");
        check.only("told", 6, Check.ILLEGAL, x::told);
        check.only("told without a town", 6, Check.ILLEGAL, new RightTurns()::told);
    }

    private void toldAtMost() {
        check.says(0, "STREETS likewise, 24");
        RightTurns x = Texts.townOf(FULL);
        check.due("16 corners", x.told(0), 16);
        check.due("24 streets", x.told(1), 24);
        check.due("no left turns on one line", x.told(4), 0);
        check.due("to the end", x.ride(0, 15, 0), 15);
        check.due("and back", x.ride(15, 0, 0), 15);
        check.due("the last arc", x.turn(47, 46), 0);
    }

    private void streets() {
        check.says(6, "0 A, 1 B, 2 N, 3 whether it is one way (1, 0)");
        RightTurns x = Texts.townOf(SQUARE + "street2 0 5;one4;");
        int[][] due = {{0, 1, 9, 0}, {1, 2, 8, 0}, {2, 3, 7, 0}, {3, 0, 6, 0}, {2, 0, 5, 1}};
        for (int s = 0; s < 5; s++) {
            for (int what = 0; what < 4; what++) {
                check.due("street(" + s + ", " + what + ")", x.street(s, what), due[s][what]);
            }
        }
        RightTurns first = Texts.townOf(SQUARE + "one0;");
        check.due("the first is one way", first.street(0, 3), 1);
        check.due("the next is not", first.street(1, 3), 0);
        check.only("what of the first", 4, Check.ILLEGAL, what -> x.street(0, what));
        check.only("what of the last", 4, Check.ILLEGAL, what -> x.street(4, what));
        check.says(6, "NoSuchElementException: no such STREET (so below)");
        for (int what = 0; what < 4; what++) {
            int w = what;
            check.only("street " + w, 5, Check.NO_SUCH, s -> x.street(s, w));
        }
        check.throwsNoSuch("no such street, no such what", () -> x.street(5, 4));
        RightTurns full = Texts.townOf(FULL);
        check.only("street of 24", 24, Check.NO_SUCH, s -> full.street(s, 0));
        check.only("street of none", 0, Check.NO_SUCH, s -> Texts.townOf("corner 0 0;").street(s, 0));
    }

    private void arcs() {
        check.says(0, "ARCS: 2 S: STREET S from A to B, 2 S and 1: from B to A (none, if it is one way)");
        RightTurns x = Texts.townOf(SQUARE);
        check.due("arc 0 from 0 to 1", x.step(0, 1, 0, 0), 0);
        check.due("arc 1 from 1 to 0", x.step(1, 0, 0, 0), 1);
        check.due("arc 6 from 3 to 0", x.step(3, 0, 0, 0), 6);
        check.due("arc 7 from 0 to 3", x.step(0, 3, 0, 0), 7);
        RightTurns full = Texts.townOf(FULL);
        check.due("arc 28 from 14 to 15", full.step(14, 15, 0, 0), 28);
        check.due("arc 29 from 15 to 14", full.step(15, 14, 0, 0), 29);
        check.due("48 arcs", full.parts(0, 0) <= 48 && full.together(47, 47, 0), true);
        RightTurns none = Texts.townOf("corner 0 0;corner 1 0;street 0 1 5;one 0;");
        check.due("one arc alone", none.parts(0, 0), 1);
        check.due("none back", none.step(1, 0, 0, 0), NONE);
    }

    private void oneWayArcs() {
        check.says(7, "NoSuchElementException: no such ARC (so of ARCS)");
        RightTurns x = Texts.townOf(SQUARE + "one 0;one 3;");
        check.only("first of turn", 7, Check.NO_SUCH, arc -> x.turn(arc, 2));
        check.only("second of turn", 7, Check.NO_SUCH, arc -> x.turn(2, arc));
        check.only("first of may", 7, Check.NO_SUCH, arc -> x.may(arc, 2, 0));
        check.only("second of may", 7, Check.NO_SUCH, arc -> x.may(2, arc, 0));
        check.only("first of together", 7, Check.NO_SUCH, arc -> x.together(arc, 2, 0));
        check.only("second of together", 7, Check.NO_SUCH, arc -> x.together(2, arc, 0));
        for (int gone : new int[] {1, 7}) {
            check.throwsNoSuch("against one way " + gone, () -> x.turn(gone, 2));
            check.throwsNoSuch("into one way " + gone, () -> x.turn(2, gone));
            check.throwsNoSuch("may from it " + gone, () -> x.may(gone, 2, 0));
            check.throwsNoSuch("may into it " + gone, () -> x.may(2, gone, 0));
            check.throwsNoSuch("together with it " + gone, () -> x.together(2, gone, 0));
            check.throwsNoSuch("it together with itself " + gone, () -> x.together(gone, gone, 0));
        }
        check.throwsNoSuch("no such arc, no such time", () -> x.may(8, 0, 1));
        check.throwsNoSuch("no such second arc, no such time", () -> x.may(0, 8, 1));
        check.throwsNoSuch("together: no such arc, no such time", () -> x.together(0, 7, 1));
    }

    private void turnNoSuch() {
        check.says(7, "NoSuchElementException: no such ARC");
        RightTurns full = Texts.townOf(FULL);
        check.only("arc of 48", 48, Check.NO_SUCH, arc -> full.turn(arc, 0));
        check.only("other of 48", 48, Check.NO_SUCH, arc -> full.turn(0, arc));
        check.only("arc without streets", 0, Check.NO_SUCH, arc -> Texts.townOf("corner 0 0;").turn(arc, arc));
        check.only("arc of two", 2, Check.NO_SUCH, arc -> Texts.townOf(Texts.row(2) + "street0 1 1;").turn(arc, arc));
    }

    private static int turnOf(int x, int y, int u, int v) {
        RightTurns turns = Texts.townOf("corner 50 50;corner " + (50 - x) + " " + (50 - y) + ";corner " + (50 + u) + " "
                + (50 + v) + ";street 1 0 5;street 0 2 5;");
        return turns.turn(0, 2);
    }

    private void kindsOfTurn() {
        check.says(0, "Of others, from (x, y) of the first into (u, v) of the second (ways along them): x v less y u above "
                + "0: LEFT");
        check.due("just left", turnOf(48, 49, 47, 48), 3);
        check.due("straight left", turnOf(10, 0, 0, 10), 3);
        check.due("the whole town to the left", turnOf(49, 49, -49, -48), 3);
        check.says(0, "below 0: RIGHT");
        check.due("just right", turnOf(48, 49, 49, 49), 1);
        check.due("straight right", turnOf(10, 0, 0, -10), 1);
        check.due("nearly back by the right", turnOf(10, 0, -49, -1), 1);
        check.says(0, "0: STRAIGHT, if x u and y v together are above 0, else BACK");
        check.due("on", turnOf(10, 0, 1, 0), 2);
        check.due("on, up", turnOf(0, 10, 0, 1), 2);
        check.due("on, on a slope", turnOf(40, 20, 2, 1), 2);
        check.due("on, down", turnOf(-3, -6, -1, -2), 2);
        check.due("on, x u and y v of two signs", turnOf(3, -6, 1, -2), 2);
        check.due("back, nearer", turnOf(10, 0, -1, 0), 0);
        check.due("back, farther", turnOf(1, 2, -20, -40), 0);
        check.due("back, up", turnOf(0, -10, 0, 1), 0);
    }

    private void turnsBack() {
        check.says(0, "into the same STREET it goes BACK");
        RightTurns x = Texts.townOf(SQUARE + "street0 1 9;street1 0 9;");
        check.due("at B", x.turn(0, 1), 0);
        check.due("at A", x.turn(1, 0), 0);
        check.due("by another street between the same two", x.turn(0, 9), 0);
        check.due("by one the other way", x.turn(0, 10), 0);
        check.due("none of these is ridden", x.may(0, 1, 0) || x.may(1, 0, 0) || x.may(0, 9, 0) || x.may(0, 10, 0), false);
        x.allow(0, 4, true);
        check.due("nor if left turns are allowed", x.may(0, 9, 1), false);
    }

    private void turnNone() {
        check.says(7, "What a TURN is: 0 BACK, 1 RIGHT, 2 STRAIGHT, 3 LEFT");
        check.due("back", turnOf(10, 0, -5, 0), 0);
        check.due("right", turnOf(10, 0, 5, -1), 1);
        check.due("straight", turnOf(10, 0, 5, 0), 2);
        check.due("left", turnOf(10, 0, 5, 1), 3);
        check.says(0, "A TURN goes from an ARC into one that begins at the CORNER where that ends");
        turnsOfEachTwo();
        check.says(7, "NONE: the second ARC does not begin where the first one ends");
        RightTurns x = Texts.townOf(SQUARE);
        int[] due = {NONE, 0, 3, NONE, NONE, NONE, NONE, NONE};
        for (int other = 0; other < 8; other++) {
            check.due("0 into " + other, x.turn(0, other), due[other]);
        }
        check.due("an arc into itself", x.turn(5, 5), NONE);
        check.due("such a turn is not ridden", x.may(5, 5, 0) || x.may(0, 4, 0), false);
    }

    private void turnsOfEachTwo() {
        RightTurns x = Texts.townOf(SQUARE);
        for (int arc = 0; arc < 8; arc++) {
            for (int other = 0; other < 8; other++) {
                boolean meet = x.street(arc / 2, 1 - arc % 2) == x.street(other / 2, other % 2);
                check.due(arc + " into " + other, x.turn(arc, other) != NONE, meet);
            }
        }
    }

    private void ridden() {
        check.says(0, "A TURN may be ridden, if it is RIGHT, or STRAIGHT, or LEFT and ALLOWED, and there is no SIGN "
                + "against it");
        String cross = "corner5 5;corner9 5;corner5 9;corner1 5;corner5 1;street0 1 1;street0 2 1;street0 3 1;street0 4 1;";
        // from the east: 1 is right, 2 straight on, 3 left
        for (String told : List.of("", "may0 1;may0 2;may0 3;", "no0 1;no0 2;no0 3;", "may0 1;may0 2;may0 3;no0 1;no0 2;no0 3;")) {
            RightTurns x = Texts.townOf(cross + told);
            boolean open = !told.contains("no");
            check.due("right" + told, x.may(1, 2, 0), open);
            check.due("straight" + told, x.may(1, 4, 0), open);
            check.due("left" + told, x.may(1, 6, 0), open && told.contains("may"));
            check.due("back" + told, x.may(1, 0, 0), false);
        }
        check.says(8, "Whether it may be ridden at a time");
        RightTurns x = Texts.townOf(cross);
        x.allow(0, 3, true);
        x.sign(0, 3, true);
        x.allow(0, 3, false);
        x.sign(0, 3, false);
        x.allow(0, 3, true);
        boolean[] due = {false, true, false, false, false, true};
        for (int time = 0; time <= 5; time++) {
            check.due("at " + time, x.may(1, 6, time), due[time]);
        }
    }

    private void mayTimes() {
        check.says(8, "IllegalArgumentException: no such time (so below, \"time\")");
        for (int changes : new int[] {0, 1, 5, 200}) {
            RightTurns x = Texts.townOf(SQUARE);
            for (int i = 0; i < changes; i++) {
                x.back(0);
            }
            check.only("time of may", changes + 1, Check.ILLEGAL, time -> x.may(0, 2, time));
            check.only("time of stands", changes + 1, Check.ILLEGAL, time -> x.stands(0, 1, time, 0));
            check.only("time of ride", changes + 1, Check.ILLEGAL, time -> x.ride(0, 2, time));
            check.only("time of step", changes + 1, Check.ILLEGAL, time -> x.step(0, 2, time, 0));
            check.only("time of reach", changes + 1, Check.ILLEGAL, time -> x.reach(0, time, 0));
            check.only("time of parts", changes + 1, Check.ILLEGAL, time -> x.parts(time, 0));
            check.only("time of together", changes + 1, Check.ILLEGAL, time -> x.together(0, 2, time));
            check.only("time of open", changes + 1, Check.ILLEGAL, time -> x.open(time, 0));
            check.only("time of since", changes + 1, Check.ILLEGAL, time -> x.since(0, 2, time, true));
            check.only("time of since, false", changes + 1, Check.ILLEGAL, time -> x.since(0, 2, time, false));
        }
        for (int changes : new int[] {0, 1, 5, 120}) {
            RightTurns x = Texts.townOf(SQUARE + "box2;rider0 2 1;");
            for (int i = 0; i < changes; i++) {
                x.back(0);
            }
            check.only("time of candidates", changes + 1, Check.ILLEGAL, x::candidates);
            check.only("time of fewest", changes + 1, Check.ILLEGAL, time -> x.fewest(time, 0));
            check.only("time of cheapest", changes + 1, Check.ILLEGAL, time -> x.cheapest(time, 0));
            check.only("time of exchange", changes + 1, Check.ILLEGAL, time -> x.exchange(time, 0));
            check.only("time of round", changes + 1, Check.ILLEGAL, time -> x.round(0, time));
            check.only("time of bound", changes + 1, Check.ILLEGAL, time -> x.bound(0, time));
            check.only("time of breaks", changes + 1, Check.ILLEGAL, time -> x.breaks(time, 0));
            check.only("time of cut", changes + 1, Check.ILLEGAL, x::cut);
            check.only("time of sure", changes + 1, Check.ILLEGAL, time -> x.sure(time, 0));
            check.only("time of detour", changes + 1, Check.ILLEGAL, time -> x.detour(0, 2, time));
            check.only("time of gain", changes + 1, Check.ILLEGAL, time -> x.gain(time, 0));
            check.only("time of baker", changes + 1, Check.ILLEGAL, time -> x.baker(time, 0));
            check.due("all that was asked changed nothing", x.told(5), changes);
        }
    }

    private void ofStreets() {
        check.says(0, "SIGNS and what is ALLOWED are told of STREETS: of all TURNS from an ARC of S into one of T");
        // streets 0 and 4 join the same two corners
        RightTurns x = Texts.townOf(SQUARE + "street0 1 5;");
        x.sign(3, 0, true);
        check.due("from 3 by its end at 0 into 0", x.may(6, 0, 1), false);
        check.due("0 into 3 is another thing", x.may(1, 7, 1), true);
        check.due("3 into the other street there", x.may(6, 8, 1), false);
        x.allow(3, 4, true);
        check.due("allowed for that one alone", x.may(6, 8, 2), true);
        check.due("not into 0", x.may(6, 0, 2), false);
        // between two that meet at both ends each turn goes back
        x.allow(0, 4, true);
        check.due("0 into 4 at B", x.may(0, 9, 3), false);
        check.due("0 into 4 at A", x.may(1, 8, 3), false);
    }

    private void soAlready() {
        check.says(0, "A CHANGE puts up a SIGN, takes one down, allows, or forbids again (nothing, if it is so "
                + "already)");
        RightTurns x = Texts.townOf(SQUARE + "no 0 1;may 0 1;");
        check.due("a sign that was told", x.sign(0, 1, true), -2);
        check.due("leave that was told", x.allow(0, 1, true), -2);
        check.due("no sign", x.sign(1, 0, false), -2);
        check.due("no leave", x.allow(1, 0, false), -2);
        check.due("time 0", x.told(5), 0);
        check.throwsIllegal("there is no time 1", () -> x.open(1, 0));
        check.due("down", x.sign(0, 1, false), 1);
        check.due("down again", x.sign(0, 1, false), -2);
        check.due("up", x.sign(0, 1, true), 2);
        check.due("up again", x.sign(0, 1, true), -2);
        check.due("forbidden", x.allow(0, 1, false), 3);
        check.due("forbidden again", x.allow(0, 1, false), -2);
        check.due("allowed", x.allow(0, 1, true), 4);
        check.due("allowed again", x.allow(0, 1, true), -2);
        check.due("back to time 0", x.back(0), 5);
        check.due("so already by that", x.sign(0, 1, true), -2);
        check.due("time 5", x.told(5), 5);
    }

    /** A square's town with so many changes: at odd times left turns from 0 into 1 are allowed. */
    private static RightTurns changed(int times) {
        RightTurns x = Texts.townOf(SQUARE);
        for (int i = 1; i <= times; i++) {
            x.allow(0, 1, i % 2 == 1);
        }
        return x;
    }

    private void twoHundred() {
        check.says(0, "time is how many CHANGES there were, 200 at most");
        check.due("199", changed(199).told(5), 199);
        check.due("a 200th leave", changed(199).allow(0, 1, false), 200);
        check.due("a 200th sign", changed(199).sign(0, 1, true), 200);
        check.due("a 200th return", changed(199).back(199), 200);
        check.due("199, so already", changed(199).allow(0, 1, true), -2);
        check.says(9, "-1: there are 200 CHANGES");
        RightTurns x = changed(200);
        check.due("no 201st sign", x.sign(0, 1, true), -1);
        check.due("nor one down", x.sign(0, 1, false), -1);
        check.due("no leave", x.allow(0, 1, true), -1);
        check.due("nor taken", x.allow(0, 1, false), -1);
        check.due("time 200", x.told(5), 200);
        check.throwsIllegal("no time 201", () -> x.open(201, 0));
        check.due("no sign was put up", x.stands(0, 1, 200, 0), false);
        check.due("no leave was given", x.stands(0, 1, 200, 1), false);
        check.due("as it was at 199", x.stands(0, 1, 199, 1), true);
        check.throwsNoSuch("no such street, though full", () -> x.sign(0, 4, true));
        check.throwsIllegal("one street, though full", () -> x.sign(0, 0, true));
        check.throwsIllegal("none in common, though full", () -> x.allow(0, 2, true));
    }

    private void eachTime() {
        check.says(0, "at each time, from 0 on, the town can be asked");
        RightTurns x = changed(200);
        for (int time = 0; time <= 200; time++) {
            check.due("at " + time, x.may(0, 2, time), time % 2 == 1);
        }
    }

    private void backTo() {
        check.says(0, "To go BACK TO a time is a CHANGE, too (as all was then)");
        RightTurns x = Texts.townOf(SQUARE + "no 3 0;may 1 2;");
        check.due("from 0 to 0", x.back(0), 1);
        x.sign(3, 0, false);
        x.allow(1, 2, false);
        x.sign(0, 1, true);
        x.allow(0, 1, true);
        check.due("to 0", x.back(0), 6);
        check.due("the told sign again", x.stands(3, 0, 6, 0), true);
        check.due("the told leave again", x.stands(1, 2, 6, 1), true);
        check.due("the new ones gone", x.stands(0, 1, 6, 0) || x.stands(0, 1, 6, 1), false);
        check.due("to now", x.back(6), 7);
        check.due("to what a return made", x.back(5), 8);
        check.due("as at 5", x.stands(0, 1, 8, 0) && x.stands(0, 1, 8, 1) && !x.stands(3, 0, 8, 0), true);
        check.due("to a return", x.back(7), 9);
        check.due("as at 0", x.stands(3, 0, 9, 0) && !x.stands(0, 1, 9, 0), true);
        check.due("7 is as it was", x.stands(3, 0, 7, 0), true);
        check.says(11, "BACK TO a time: the time then");
        check.due("the time then", x.back(3), 10);
        check.due("told as well", x.told(5), 10);
        check.only("time of back", 11, Check.ILLEGAL, time -> time == 0 || time == 10 ? 0 : x.back(time));
        check.due("none of those was a change", x.told(5), 10);
        check.due("the latest can be gone back to", x.back(10), 11);
        check.throwsIllegal("one beyond it not", () -> x.back(12));
    }

    private void backTwoHundred() {
        check.says(11, "-1");
        RightTurns x = changed(200);
        check.due("to 0", x.back(0), -1);
        check.due("to 200", x.back(200), -1);
        check.throwsIllegal("to 201", () -> x.back(201));
        check.throwsIllegal("to -1", () -> x.back(-1));
        check.due("time 200", x.told(5), 200);
        check.due("the 200th can be a return", changed(199).back(0), 200);
    }

    private void signRefused() {
        check.says(9, "IllegalArgumentException: they are one, or have no CORNER in common (so of the next)");
        RightTurns x = Texts.townOf(SQUARE);
        for (int s = 0; s < 4; s++) {
            for (int t = 0; t < 4; t++) {
                int from = s;
                int into = t;
                boolean refused = s == t || s % 2 == t % 2;
                check.due("sign " + s + " " + t, Check.answerOf(() -> x.sign(from, into, false)), refused ? Check.ILLEGAL : "-2");
                check.due("allow " + s + " " + t, Check.answerOf(() -> x.allow(from, into, false)), refused ? Check.ILLEGAL : "-2");
            }
        }
        check.due("nothing was changed", x.told(5), 0);
        check.only("first of sign", 4, Check.NO_SUCH, s -> x.sign(s, s == 0 ? 1 : 2, false));
        check.only("second of sign", 4, Check.NO_SUCH, s -> x.sign(s == 0 ? 1 : 2, s, false));
        check.only("first of allow", 4, Check.NO_SUCH, s -> x.allow(s, s == 0 ? 1 : 2, false));
        check.only("second of allow", 4, Check.NO_SUCH, s -> x.allow(s == 0 ? 1 : 2, s, false));
        check.throwsNoSuch("one that is none such", () -> x.sign(4, 4, true));
        check.throwsNoSuch("one that is none such", () -> x.allow(-1, -1, true));
        // each way of having one in common
        for (String other : List.of("0 2", "2 0", "1 2", "2 1", "0 1", "1 0")) {
            RightTurns y = Texts.townOf("corner0 0;corner1 0;corner2 1;street0 1 1;street" + other + " 1;");
            check.due("0 to 1 and " + other, y.sign(0, 1, true), 1);
            check.due("and the other way", y.allow(1, 0, true), 2);
        }
    }

    private void signAnswers() {
        check.says(9, "A SIGN is put up (or taken down) against turning from a STREET into another one: the time then");
        RightTurns x = Texts.townOf(SQUARE + "no 2 1;");
        check.due("up", x.sign(3, 2, true), 1);
        check.due("it stands", x.stands(3, 2, 1, 0), true);
        check.due("it stood not", x.stands(3, 2, 0, 0), false);
        check.due("down", x.sign(2, 1, false), 2);
        check.due("it stands no more", x.stands(2, 1, 2, 0), false);
        check.due("it stood", x.stands(2, 1, 1, 0), true);
        check.says(9, "-2: it is so already");
        check.due("up", x.sign(3, 2, true), -2);
        check.due("down", x.sign(2, 1, false), -2);
        check.due("down, never told", x.sign(0, 1, false), -2);
        check.due("time", x.told(5), 2);
    }

    private void allowLikewise() {
        check.says(10, "Left turns from a STREET into another one are ALLOWED, or not: likewise");
        RightTurns x = Texts.townOf(SQUARE + "may 1 2;");
        check.due("allowed", x.allow(0, 1, true), 1);
        check.due("so already", x.allow(0, 1, true), -2);
        check.due("not any more", x.allow(1, 2, false), 2);
        check.due("so already, too", x.allow(1, 2, false), -2);
        check.due("what has no left turn can be allowed", x.allow(3, 2, true), 3);
        check.due("which does nothing but stand", x.may(7, 5, 2) && x.may(7, 5, 3) && x.stands(3, 2, 3, 1), true);
        check.due("200 of them", changed(200).allow(1, 2, true), -1);
    }

    private void stands() {
        check.says(12, "Whether there is a SIGN (what 0), it is ALLOWED (1), from a STREET into another one, at a "
                + "time");
        RightTurns x = Texts.townOf(SQUARE + "no 0 1;may 1 2;");
        check.due("a sign", x.stands(0, 1, 0, 0), true);
        check.due("no leave", x.stands(0, 1, 0, 1), false);
        check.due("leave", x.stands(1, 2, 0, 1), true);
        check.due("no sign", x.stands(1, 2, 0, 0), false);
        check.due("of two that do not meet", x.stands(0, 2, 0, 0) || x.stands(0, 2, 0, 1), false);
        check.due("of one street", x.stands(3, 3, 0, 0) || x.stands(3, 3, 0, 1), false);
        check.only("what", 2, Check.ILLEGAL, what -> x.stands(0, 1, 0, what));
        check.only("street", 4, Check.NO_SUCH, s -> x.stands(s, 1, 0, 0));
        check.only("other", 4, Check.NO_SUCH, s -> x.stands(0, s, 0, 0));
        check.throwsNoSuch("no such street, time and what", () -> x.stands(4, 0, 1, 2));
        check.throwsNoSuch("no such other, time and what", () -> x.stands(0, 4, 1, 2));
        check.throwsIllegal("no such time", () -> x.stands(0, 1, 1, 0));
    }

    private void images() {
        check.says(38, "An IMAGE of all CHANGES and the TOLD RIDE: how many there are");
        RightTurns x = Texts.townOf(SQUARE);
        check.due("of nothing", x.image(), 1);
        check.due("counted", x.count(1), 1);
        x.allow(0, 1, true);
        x.tell(3);
        check.due("of a change and a corner", x.image(), 2);
        check.due("time as it was", x.told(5), 1);
        check.due("told ride as it was", x.count(0), 1);
        x.restore();
        x.restore();
        check.due("time of the first", x.told(5), 0);
        check.due("no told ride", x.count(0), 0);
        check.due("a new object has room for them, too", new RightTurns().image(), 1);
    }

    private void imagesFull() {
        check.says(38, "-1: there are 3");
        RightTurns x = Texts.townOf(SQUARE);
        check.due("one", x.image(), 1);
        check.due("two", x.image(), 2);
        x.tell(1);
        check.due("three", x.image(), 3);
        x.tell(2);
        check.due("no fourth", x.image(), -1);
        check.due("still none", x.image(), -1);
        check.due("three there", x.count(1), 3);
        check.due("two left", x.restore(), 2);
        check.due("the third was kept as it was", x.count(0), 1);
        check.due("room for one again", x.image(), 3);
        check.due("and no more", x.image(), -1);
    }

    private void restored() {
        check.says(39, "All is as in the latest IMAGE, which is gone: how many are left");
        RightTurns x = changed(100);
        for (int i = 0; i < 12; i++) {
            x.tell(i % 4);
        }
        x.image();
        x.forget();
        for (int i = 0; i < 100; i++) {
            x.back(0);
        }
        x.image();
        x.tell(1);
        x.image();
        check.due("two left", x.restore(), 2);
        check.due("time 200", x.told(5), 200);
        check.due("one corner", x.count(0), 1);
        check.due("one left", x.restore(), 1);
        check.due("no corner", x.count(0), 0);
        check.due("as at 0", x.stands(0, 1, 199, 1), false);
        check.due("none left", x.restore(), 0);
        check.due("time 100", x.told(5), 100);
        check.due("twelve corners", x.count(0), 12);
        check.due("in their order, though another one came first since", x.breaks(0, 1), 1);
        check.due("which are all", x.tell(0), -1);
        check.throwsIllegal("no time 101", () -> x.may(0, 2, 101));
        check.due("as at 99", x.may(0, 2, 99), true);
        check.due("there is room for changes again", x.allow(0, 1, true), 101);
        check.due("another 101st than before", x.may(0, 2, 101), true);
        x.feed(0, 0, 0, 0, 0);
        x.image();
        Texts.feed(x, "corner");
        x.restore();
        check.due("the tape is no part of it", x.count(2), 40);
    }

    private void restoredNone() {
        check.says(39, "-1: there is none");
        check.due("of a new object", new RightTurns().restore(), -1);
        RightTurns x = Texts.townOf(SQUARE);
        x.allow(0, 1, true);
        x.tell(1);
        check.due("none", x.restore(), -1);
        check.due("time as it was", x.told(5), 1);
        check.due("told ride as it was", x.count(0), 1);
        x.image();
        check.due("one", x.restore(), 0);
        check.due("none behind that", x.restore(), -1);
        x.image();
        Texts.tell(x, SQUARE);
        check.due("none behind a new town", x.restore(), -1);
    }

    private void counts() {
        check.says(40, "0 CORNERS of the TOLD RIDE, 1 IMAGES, 2 bytes of the TAPE");
        RightTurns x = Texts.townOf(SQUARE);
        for (int what = 0; what < 3; what++) {
            check.due("at first " + what, x.count(what), 0);
        }
        for (int i = 1; i <= 12; i++) {
            x.tell(0);
            check.due("told", x.count(0), i);
        }
        for (int i = 1; i <= 3; i++) {
            x.image();
            check.due("images", x.count(1), i);
        }
        for (int i = 1; i <= 25; i++) {
            x.feed(0, 0, 0, 0, 0);
            check.due("bytes", x.count(2), 20 * i);
        }
        check.says(40, "NONE for others");
        check.only("what", 3, "-1", x::count);
    }
}
