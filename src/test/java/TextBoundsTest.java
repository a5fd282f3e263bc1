import java.util.List;

/** The bounds of a town's text, its faults and their places, and of the tape: sentence by sentence. */
public final class TextBoundsTest {
    private static final int NONE = RightTurns.NONE;
    private static final List<String> WORDS = List.of("corner", "street", "one", "no", "may", "box", "rider");

    /** 30 bytes. */
    private static final String THREE = "corner0 0;corner1 0;corner1 1;";

    /** Five clauses, two streets that meet at corner 1. */
    private static final String HOOK = THREE + "street0 1 1;street1 2 1;";

    private final Check check = new Check();

    public static void main(String[] args) {
        TextBoundsTest test = new TextBoundsTest();
        test.bytes();
        test.clauses();
        test.corners();
        test.places();
        test.cornersApart();
        test.streets();
        test.streetEnds();
        test.streetLengths();
        test.oneWay();
        test.signs();
        test.leave();
        test.boxes();
        test.tenBoxes();
        test.riders();
        test.riderNumbers();
        test.toldAhead();
        test.inCommon();
        test.numbers();
        test.words();
        test.blanks();
        test.firstFromTheLeft();
        test.whatCannotStand();
        test.endsTooEarly();
        test.noneSuch();
        test.tooMany();
        test.ofOneTheLeast();
        test.feeding();
        test.feedingTooMuch();
        test.townOfTape();
        test.townAnswers();
        test.townStays();
        test.townRefused();
        test.faultPlace();
        test.check.end();
    }

    private void fine(String text, int corners) {
        check.due(text, Texts.outcome(text), corners + " at " + NONE);
    }

    private void fault(String text, int kind, int place) {
        check.due(text, Texts.outcome(text), kind - 10 + " at " + place);
    }

    /** The fault at the end of a text, at a byte counted from where its last part begins. */
    private void faultIn(String ahead, String last, int kind, int place) {
        fault(ahead + last, kind, ahead.length() + place);
    }

    private void bytes() {
        check.says(0, "A TOWN is a text of up to 500 bytes");
        String clause = "corner 9 8;";
        for (int size : new int[] {0, 1, 11, 499, 500}) {
            fine(" ".repeat(Math.max(0, size - 11)) + (size < 11 ? "" : clause), size < 11 ? 0 : 1);
        }
        RightTurns x = new RightTurns();
        Texts.feed(x, " ".repeat(489) + clause);
        check.throwsIllegal("501 bytes", () -> x.town(501));
        check.due("499 of 500 bytes", x.town(499), -9);
        check.due("at the length", x.fault(), 499);
        faultIn(" ".repeat(489), "corner 9 88", 1, 11);
        faultIn(" ".repeat(499), "c", 1, 0);
    }

    private void clauses() {
        check.says(0, "{ CLAUSE \";\" }, at most 60");
        for (String filler : List.of("one0;", "no0 1;", "may0 1;", "box0;")) {
            fine(HOOK + filler.repeat(54), 3);
            fine(HOOK + filler.repeat(55), 3);
            fine(HOOK + filler.repeat(55) + "   ", 3);
            faultIn(HOOK + filler.repeat(55), filler, 3, 0);
        }
        String sixty = HOOK + "box0;".repeat(55);
        for (String more : List.of("corner5 5;", "street0 1 1;", "one0;", "no0 1;", "may0 1;", "box0;", "rider0 1 0;")) {
            faultIn(sixty, more, 3, 0);
            faultIn(sixty, "  " + more, 3, 2);
            faultIn(HOOK + "box0;".repeat(54) + more, more, 3, 0);
        }
        // no clause at all is a text, too, but a mark without a clause is not
        fine("", 0);
        fault(";", 1, 0);
        faultIn(sixty, ";", 1, 0);
        faultIn("corner0 0;", ";", 1, 0);
    }

    private void corners() {
        check.says(0, "CLAUSE: \"corner\" X Y (CORNERS, numbered from 0 on, 16 at most");
        fine(Texts.row(1), 1);
        fine(Texts.row(15), 15);
        fine(Texts.row(16), 16);
        faultIn(Texts.row(16), "corner0 1;", 3, 0);
        faultIn(Texts.row(16), " corner0 1;", 3, 1);
        fine(Texts.row(16) + "box0;box15;", 16);
        faultIn(Texts.row(16), "box16;", 2, 3);
        faultIn(Texts.row(15), "box15;", 2, 3);
        RightTurns x = Texts.townOf(Texts.row(16) + "street0 15 7;");
        check.due("the first is 0", x.street(0, 0), 0);
        check.due("the last is 15", x.street(0, 1), 15);
        check.due("from the one to the other", x.ride(0, 15, 0), 7);
    }

    private void places() {
        check.says(0, "at X, Y, 0 to 99, Y 0 below");
        fine("corner 0 0;corner 99 0;corner 0 99;corner 99 99;", 4);
        fault("corner 100 0;", 2, 7);
        fault("corner 0 100;", 2, 9);
        fault("corner 99 100;", 2, 10);
        fault("corner -1 0;", 1, 7);
        fault("corner 0 -1;", 1, 9);
        RightTurns north = Texts.townOf("corner 0 0;corner 0 99;corner 99 99;corner 99 0;street 0 1 1;street 1 2 1;"
                + "street 0 3 1;street 3 2 1;");
        check.due("from north to east it goes right", north.turn(0, 2), 1);
        check.due("from east to north it goes left", north.turn(4, 6), 3);
    }

    private void cornersApart() {
        check.says(0, "not two at one");
        fine("corner 3 4;corner 3 5;corner 3 3;corner 2 4;corner 4 4;corner 4 3;", 6);
        fault("corner 3 4;corner 3 4;", 2, 20);
        fault("corner 3 4;corner 03 004;", 2, 21);
        fault("corner 0 0;corner 0 0", 2, 20);
        faultIn(Texts.row(15), "corner 0 0;", 2, 9);
        faultIn(Texts.row(15), "corner 14 0;", 2, 10);
        fine(Texts.row(15) + "corner 15 0;", 16);
    }

    private void streets() {
        check.says(0, "\"street\" A B N (STREETS likewise, 24");
        String two = Texts.row(2);
        fine(two + "street0 1 1;".repeat(23), 2);
        fine(two + "street0 1 1;".repeat(24), 2);
        faultIn(two + "street0 1 1;".repeat(24), "street0 1 1;", 3, 0);
        faultIn(two + "street0 1 1;".repeat(24), "  street", 3, 2);
        fine(two + "street0 1 1;".repeat(24) + "one0;one23;", 2);
        faultIn(two + "street0 1 1;".repeat(24), "one24;", 2, 3);
        faultIn(two + "street0 1 1;".repeat(23), "one23;", 2, 3);
        RightTurns x = Texts.townOf(two + "street0 1 5;" + "street0 1 1;".repeat(22) + "street1 0 9;");
        check.due("the first is 0", x.street(0, 2), 5);
        check.due("the last is 23", x.street(23, 2), 9);
        check.says(0, "several may join the same two");
        check.due("24 between two", x.told(1), 24);
        check.due("either way", x.street(0, 0) + 10 * x.street(23, 0), 10);
        check.due("two with all alike", Texts.townOf(two + "street0 1 1;street0 1 1;").told(1), 2);
    }

    private void streetEnds() {
        check.says(0, "between two CORNERS");
        fault("street 0 1 5;", 2, 7);
        fault("corner 0 0;street 0 1 5;", 2, 20);
        fault("corner 0 0;street 0 0 5;", 2, 20);
        fine(THREE + "street 0 2 5;street 2 0 5;", 3);
        faultIn(THREE, "street 3 0 5;", 2, 7);
        faultIn(THREE, "street 0 3 5;", 2, 9);
        faultIn(THREE, "street 3 3 5;", 2, 7);
        for (int c = 0; c < 3; c++) {
            faultIn(THREE, "street " + c + " " + c + " 5;", 2, 9);
        }
        faultIn(THREE, "street -1 0 5;", 1, 7);
        fine(Texts.row(16) + "street 15 14 5;street 14 15 5;", 16);
        faultIn(Texts.row(16), "street 16 15 5;", 2, 7);
        faultIn(Texts.row(16), "street 15 16 5;", 2, 10);
    }

    private void streetLengths() {
        check.says(0, "N long, 1 to 99");
        for (int n : new int[] {1, 2, 98, 99}) {
            RightTurns x = Texts.townOf(THREE + "street 0 1 " + n + ";");
            check.due("N", x.street(0, 2), n);
            check.due("a ride along it", x.ride(0, 1, 0), n);
        }
        faultIn(THREE, "street 0 1 0;", 2, 11);
        faultIn(THREE, "street 0 1 000;", 2, 11);
        faultIn(THREE, "street 0 1 100;", 2, 11);
        faultIn(THREE, "street 0 1 -1;", 1, 11);
    }

    private void oneWay() {
        check.says(0, "\"one\" S (STREET S one way only, from its A to its B)");
        faultIn(THREE, "one 0;", 2, 4);
        fine(HOOK + "one 0;one 1;one 1;", 3);
        faultIn(HOOK, "one 2;", 2, 4);
        faultIn(HOOK, "one -1;", 1, 4);
        RightTurns x = Texts.townOf(HOOK + "one 1;one 1;");
        check.due("the other one is not", x.street(0, 3), 0);
        check.due("it is", x.street(1, 3), 1);
        check.due("from A to B", x.ride(1, 2, 0), 1);
        check.due("not from B to A", x.ride(2, 1, 0), NONE);
    }

    private void signs() {
        check.says(0, "\"no\" S T (a SIGN against turning from STREET S into T; not the same)");
        faultIn(HOOK, "no 0 0;", 2, 5);
        faultIn(HOOK, "no 1 1;", 2, 5);
        faultIn(HOOK, "no 2 0;", 2, 3);
        faultIn(HOOK, "no 0 2;", 2, 5);
        faultIn(THREE, "no 0 1;", 2, 3);
        RightTurns x = Texts.townOf(HOOK + "no 1 0;no 1 0;");
        check.due("twice as once", x.stands(1, 0, 0, 0), true);
        check.due("not from T into S", x.stands(0, 1, 0, 0), false);
        check.due("nor is it leave", x.stands(1, 0, 0, 1), false);
        check.due("the right turn is barred", x.may(3, 1, 0), false);
    }

    private void leave() {
        check.says(0, "\"may\" S T (a left turn from S into T is ALLOWED)");
        faultIn(HOOK, "may 2 0;", 2, 4);
        faultIn(HOOK, "may 0 2;", 2, 6);
        faultIn(THREE, "may 0 1;", 2, 4);
        // a street and itself, as of "no" and of allow()
        faultIn(HOOK, "may 0 0;", 2, 6);
        faultIn(HOOK, "may 1 1;", 2, 6);
        RightTurns x = Texts.townOf(HOOK + "may 0 1;may 0 1;");
        check.due("twice as once", x.stands(0, 1, 0, 1), true);
        check.due("not from T into S", x.stands(1, 0, 0, 1), false);
        check.due("nor is it a sign", x.stands(0, 1, 0, 0), false);
        check.due("the left turn is allowed", x.may(0, 2, 0), true);
    }

    private void boxes() {
        check.says(0, "\"box\" C (a letter box at a CORNER, twice as once");
        fault("box 0;", 2, 4);
        faultIn(THREE, "box 3;", 2, 4);
        faultIn(THREE, "box -1;", 1, 4);
        check.due("none", Texts.townOf(THREE).told(2), 0);
        check.due("at the first", Texts.townOf(THREE + "box 0;").told(2), 1);
        check.due("at the last", Texts.townOf(THREE + "box 2;").told(2), 1);
        check.due("twice", Texts.townOf(THREE + "box 2;box 2;").told(2), 1);
        check.due("two, one of them twice", Texts.townOf(THREE + "box 2;box 1;box 2;").told(2), 2);
        check.due("at each", Texts.townOf(THREE + "box 2;box 1;box 0;").told(2), 3);
    }

    private static String boxesTo(int many) {
        StringBuilder text = new StringBuilder(Texts.row(16));
        for (int i = 0; i < many; i++) {
            text.append("box").append(i).append(';');
        }
        return text.toString();
    }

    private void tenBoxes() {
        check.says(0, "behind ten unlike ones there is no box any more");
        fine(boxesTo(9) + "box0;box8;", 16);
        fine(boxesTo(9) + "box15;", 16);
        check.due("nine", Texts.townOf(boxesTo(9)).told(2), 9);
        check.due("ten", Texts.townOf(boxesTo(10)).told(2), 10);
        check.due("many, but nine unlike ones", Texts.townOf(boxesTo(9) + "box3;".repeat(12)).told(2), 9);
        faultIn(boxesTo(10), "box10;", 3, 0);
        faultIn(boxesTo(10), "box15;", 3, 0);
        faultIn(boxesTo(10), "box0;", 3, 0);
        faultIn(boxesTo(10), " box9;", 3, 1);
        faultIn(boxesTo(10), "box99;", 3, 0);
        faultIn(boxesTo(10), "box", 3, 0);
    }

    private void riders() {
        check.says(0, "\"rider\" A B M (RIDERS likewise, 12");
        String two = Texts.row(2);
        check.due("11", Texts.townOf(two + "rider0 1 5;".repeat(11)).told(3), 11);
        check.due("12", Texts.townOf(two + "rider0 1 5;".repeat(12)).told(3), 12);
        faultIn(two + "rider0 1 5;".repeat(12), "rider0 1 5;", 3, 0);
        faultIn(two + "rider0 1 5;".repeat(12), "  rider", 3, 2);
        RightTurns x = Texts.townOf(two + "street0 1 7;rider0 1 5;" + "rider1 0 20;".repeat(10) + "rider0 1 50;");
        check.due("the first is 0", x.home(0), 12);
        check.due("the last is 11", x.home(11), 57);
        check.throwsIllegal("there is no 12", () -> x.home(12));
    }

    private void riderNumbers() {
        check.says(0, "from CORNER A to B, not the same, from ROUND M on, 0 to 99");
        for (int m : new int[] {0, 1, 98, 99}) {
            RightTurns x = Texts.townOf(HOOK + "rider 2 0 " + m + ";");
            check.due("home two streets of 1 later than " + m, x.home(0), m + 2);
        }
        faultIn(HOOK, "rider 0 1 100;", 2, 10);
        faultIn(HOOK, "rider 0 1 -1;", 1, 10);
        for (int c = 0; c < 3; c++) {
            faultIn(HOOK, "rider " + c + " " + c + " 5;", 2, 8);
        }
        faultIn(HOOK, "rider 0 0 100;", 2, 8);
        faultIn(HOOK, "rider 3 0 5;", 2, 6);
        faultIn(HOOK, "rider 0 3 5;", 2, 8);
        faultIn(HOOK, "rider 3 3 5;", 2, 6);
        fine(HOOK + "rider 0 2 5;rider 2 0 5;", 3);
        fault("rider 0 1 5;", 2, 6);
        fault("corner 0 0;rider 0 0 5;", 2, 19);
        fault("corner 0 0;rider 0 1 5;", 2, 19);
    }

    private void toldAhead() {
        check.says(0, "S, T, A, B, C: told ahead");
        String more = "corner9 9;street0 2 1;street2 1 1;";
        faultIn(HOOK, "street3 0 1;" + more, 2, 6);
        faultIn(HOOK, "street0 3 1;" + more, 2, 8);
        faultIn(HOOK, "rider3 0 1;" + more, 2, 5);
        faultIn(HOOK, "rider0 3 1;" + more, 2, 7);
        faultIn(HOOK, "box3;" + more, 2, 3);
        faultIn(HOOK, "one2;" + more, 2, 3);
        faultIn(HOOK, "no2 0;" + more, 2, 2);
        faultIn(HOOK, "no0 2;" + more, 2, 4);
        faultIn(HOOK, "may2 0;" + more, 2, 3);
        faultIn(HOOK, "may0 2;" + more, 2, 5);
        fine(HOOK + more + "street3 0 1;street0 3 1;rider3 0 1;rider0 3 1;box3;one2;no2 0;no0 2;may2 0;may0 2;", 4);
        // corners may come behind all others: only what is named must be there
        fine("corner0 0;corner1 0;street0 1 1;one0;box1;rider0 1 1;corner2 0;street1 2 1;no0 1;", 3);
    }

    private void inCommon() {
        check.says(0, "of no and may S and T must have a CORNER in common");
        String four = "corner0 0;corner1 0;corner2 1;corner3 5;";
        for (String word : List.of("no", "may")) {
            int at = word.length() + 3;
            // street 0 is 0 to 1; the other one has A, or B, in common with its A, or B, or both, or none
            for (String other : List.of("0 2", "2 0", "1 2", "2 1", "0 1", "1 0")) {
                fine(four + "street0 1 1;street" + other + " 1;" + word + " 0 1;" + word + " 1 0;", 4);
            }
            faultIn(four + "street0 1 1;street2 3 1;", word + " 0 1;", 2, at);
            faultIn(four + "street0 1 1;street3 2 1;", word + " 1 0;", 2, at);
            faultIn(four + "street2 3 1;street0 1 1;", word + " 0 001;", 2, at);
        }
    }

    private void numbers() {
        check.says(0, "Numbers: digits, as many as stand there");
        fine("corner 007 " + "0".repeat(400) + "99;", 1);
        fault("corner " + "0".repeat(400) + "100 0;", 2, 7);
        fault("corner " + "9".repeat(480) + " 0;", 2, 7);
        fault("corner 12;", 1, 9);
        fault("corner 0 0 0;", 1, 11);
        fault("corner 9 9 9", 1, 11);
        fault("corner 9 99;corner 9 99;", 2, 21);
        fine("corner 9 99;corner 99 9;corner 9 9;", 3);
        // what would wrap round into 0 to 99, of 8, 16, 32 and 64 bits
        for (String number : List.of("256", "257", "65536", "65541", "4294967296", "4294967301",
                "18446744073709551616", "18446744073709551621", "2147483648", "9223372036854775808")) {
            fault("corner " + number + " 0;", 2, 7);
            fault("corner 0 " + number + ";", 2, 9);
            faultIn(HOOK, "street 0 1 " + number + ";", 2, 11);
            faultIn(HOOK, "street " + number + " 1 1;", 2, 7);
            faultIn(HOOK, "one " + number + ";", 2, 4);
            faultIn(HOOK, "box " + number + ";", 2, 4);
            faultIn(HOOK, "rider 0 1 " + number + ";", 2, 10);
        }
        fault("corner 0/0;", 1, 8);
        fault("corner 0:0;", 1, 8);
        fault("corner 0 /;", 1, 9);
        fault("corner 0 :;", 1, 9);
        fault("corner +0 0;", 1, 7);
        fault("corner 0. 0;", 1, 8);
    }

    private void words() {
        check.says(0, "WORDS: small letters, as many as stand there");
        for (String word : WORDS) {
            faultIn(HOOK, word + "s 0 1 1;", 1, 0);
            faultIn(HOOK, "a" + word + " 0 1 1;", 1, 0);
            faultIn(HOOK, word + word + " 0 1 1;", 1, 0);
            faultIn(HOOK, word.substring(0, word.length() - 1) + " 0 1 1;", 1, 0);
            faultIn(HOOK, word.substring(1) + " 0 1 1;", 1, 0);
            faultIn(HOOK, word.toUpperCase() + " 0 1 1;", 1, 0);
            faultIn(HOOK, word.substring(0, 1).toUpperCase() + word.substring(1) + " 0 1 1;", 1, 0);
            faultIn(HOOK, word.substring(0, 1) + " " + word.substring(1) + " 0 1 1;", 1, 0);
            faultIn(HOOK, word + "` 0 1 1;", 1, word.length());
            faultIn(HOOK, word + "{ 0 1 1;", 1, word.length());
            faultIn(HOOK, word + "Z 0 1 1;", 1, word.length());
        }
        fault("x", 1, 0);
        fault("z".repeat(500), 1, 0);
        fine("corner1 2;corner3 4;street0 1 5;one0;box1;rider1 0 3;", 2);
    }

    private void blanks() {
        check.says(0, "blanks (32) may stand ahead of all these, and at the end");
        String spaced = "  corner   1   2   ;   corner 3 4 ;  street 0 1 9 ; street 1 0 8 ;  one  0  ;"
                + "  no  0  1  ;  may  0  1  ;  box  1  ;  rider  0  1  5  ;  ";
        fine(spaced, 2);
        fine(" ", 0);
        fine(" ".repeat(500), 0);
        check.due("as told close together", Texts.townOf(spaced).street(1, 2), 8);
        for (int sign = 0; sign < 256; sign++) {
            String one = String.valueOf((char) sign);
            boolean blank = sign == 32;
            boolean digit = sign >= '0' && sign <= '9';
            check.due("sign " + sign + " alone", Texts.outcome(one), blank ? "0 at -1" : "-9 at 0");
            check.due("sign " + sign + " ahead of a word", Texts.outcome(one + "box 1;"), blank ? "-8 at 5" : "-9 at 0");
            check.due("sign " + sign + " behind a word", Texts.outcome("corner" + one + " 1;"),
                    digit ? "1 at -1" : sign >= 'a' && sign <= 'z' ? "-9 at 0" : blank ? "-9 at 9" : "-9 at 6");
            check.due("sign " + sign + " between numbers", Texts.outcome("corner 1" + one + "2;"),
                    blank ? "1 at -1" : digit ? "-8 at 7" : "-9 at 8");
            check.due("sign " + sign + " ahead of the mark", Texts.outcome("corner 1 2" + one + ";"),
                    blank || digit ? "1 at -1" : sign == ';' ? "-9 at 11" : "-9 at 10");
            check.due("sign " + sign + " at the end", Texts.outcome("corner 1 2;" + one), blank ? "1 at -1" : "-9 at 11");
        }
    }

    private void firstFromTheLeft() {
        check.says(0, "FAULTS, the first from the left, at its first byte");
        fault("corner 100 100;", 2, 7);
        fault("corner 0 100;corner x;", 2, 9);
        fault("corner x 100;", 1, 7);
        fault("cornr 100;", 1, 0);
        fault("corner 0 0;corner 0 0;bix;", 2, 20);
        fault("corner 0 00100", 2, 9);
        faultIn(Texts.row(16), "corner 100 100;", 3, 0);
        faultIn(HOOK, "street 0 0 0;", 2, 9);
        faultIn(HOOK, "no 2 2;", 2, 3);
        faultIn(HOOK, "rider 1 1 100;", 2, 8);
        faultIn(HOOK, "one 2", 2, 4);
        faultIn(HOOK, "  one   2  x", 2, 8);
        faultIn(HOOK, "box 0 1;box 9;", 1, 6);
    }

    private void whatCannotStand() {
        check.says(0, "1 what can't stand there");
        for (String word : WORDS) {
            faultIn(HOOK, word + ";", 1, word.length());
            faultIn(HOOK, word + " x;", 1, word.length() + 1);
            faultIn(HOOK, word + " " + word, 1, word.length() + 1);
        }
        for (String whole : List.of("corner 5 5", "street 0 1 1", "one 0", "no 0 1", "may 0 1", "box 0", "rider 0 1 1")) {
            fine(HOOK + whole + ";", whole.startsWith("corner") ? 4 : 3);
            faultIn(HOOK, whole + " 1;", 1, whole.length() + 1);
            faultIn(HOOK, whole + ",", 1, whole.length());
            faultIn(HOOK, whole + " box 0;", 1, whole.length() + 1);
            String less = whole.substring(0, whole.length() - 2);
            faultIn(HOOK, less + ";", 1, less.length());
            faultIn(HOOK, less + " ;", 1, less.length() + 1);
        }
        fault("0", 1, 0);
        fault("  ;", 1, 2);
    }

    private void endsTooEarly() {
        check.says(0, "(at the length, if the text ends too early)");
        String whole = "corner 0 0;corner 1 0; corner 1 1 ;street 0 1 5;street 1 2 5;one 0;no 0 1;may  0 1;box 0;rider 0 1 5;";
        for (int n = 0; n <= whole.length(); n++) {
            RightTurns x = new RightTurns();
            Texts.feed(x, whole);
            int answer = x.town(n);
            String last = whole.substring(whole.lastIndexOf(';', n - 1) + 1, n);
            String word = last.strip();
            boolean cutWord = word.chars().allMatch(Character::isLetter) && !WORDS.contains(word);
            int place = last.isBlank() ? NONE : cutWord ? n - word.length() : n;
            check.due("the first " + n + " bytes", x.fault(), place);
            check.due("answered to the first " + n, answer < 0, !last.isBlank());
            check.due("which fault", Math.min(answer, 0), last.isBlank() ? 0 : -9);
        }
        faultIn(" ".repeat(488), "corner 10 10", 1, 12);
    }

    private void noneSuch() {
        check.says(0, "2 a number that is none such (of what two numbers must be to each other: at the second one)");
        fault("corner 55 66;corner 55 66;", 2, 23);
        faultIn(HOOK, "street  1  1 5;", 2, 11);
        faultIn(HOOK, "rider  1  1 5;", 2, 10);
        faultIn(HOOK, "no  1  1;", 2, 7);
        faultIn(HOOK, "may  1  1;", 2, 8);
        faultIn(HOOK + "corner8 8;corner9 8;street3 4 1;", "no  0  2;", 2, 7);
        faultIn(HOOK + "corner8 8;corner9 8;street3 4 1;", "may  2  0;", 2, 8);
        // alone each of them would do
        faultIn(HOOK, "street 0 1 100;", 2, 11);
        faultIn(HOOK, "street 5 5 5;", 2, 7);
    }

    private void tooMany() {
        check.says(0, "3 a CLAUSE, CORNER, STREET, box or RIDER too many (at its word)");
        faultIn(HOOK + "box0;".repeat(55), " one0;", 3, 1);
        faultIn(Texts.row(16), " corner0 1;", 3, 1);
        faultIn(Texts.row(2) + "street0 1 1;".repeat(24), " street0 1 1;", 3, 1);
        faultIn(boxesTo(10), " box10;", 3, 1);
        faultIn(Texts.row(2) + "rider0 1 5;".repeat(12), " rider0 1 5;", 3, 1);
        // of what has no bound of its own there is none too many
        fine(HOOK + "one0;".repeat(30) + "no0 1;".repeat(25), 3);
        fine(HOOK + "may0 1;".repeat(30) + "box1;".repeat(25), 3);
    }

    private void ofOneTheLeast() {
        check.says(0, "of one the least");
        String sixty = HOOK + "box0;".repeat(55);
        faultIn(sixty, "bax0;", 1, 0);
        faultIn(sixty, "corners0 0;", 1, 0);
        faultIn(sixty, " 5", 1, 1);
        faultIn(sixty, "box", 3, 0);
        // one too many of both
        faultIn(Texts.row(16) + "box0;".repeat(44), "corner0 1;", 3, 0);
    }

    private void feeding() {
        check.says(2, "Twenty bytes come on the TAPE, of each number the highest first: how many there are");
        RightTurns x = new RightTurns();
        check.due("the first twenty", x.feed(0x636f726e, 0x65723120, 0x323b636f, 0x726e6572, 0x3320343b), 20);
        check.due("they are there", x.count(2), 20);
        check.due("twenty more", x.feed(0x73747265, 0x65743020, 0x3120393b, 0x20202020, 0xff7f8000), 40);
        check.due("two corners and a street", x.town(36), 2);
        check.due("the street", x.street(0, 2), 9);
        // bytes from 128 on are none of the signs under 128
        for (int i = 0; i < 5; i++) {
            int[] n = {0x20202020, 0x20202020, 0x20202020, 0x20202020, 0x20202020};
            for (int shift = 24; shift >= 0; shift -= 8) {
                int[] odd = n.clone();
                odd[i] |= 0x80 << shift;
                x.feed(odd[0], odd[1], odd[2], odd[3], odd[4]);
                check.due("a blank and 128", x.town(20), -9);
                check.due("its place by the highest first", x.fault(), 4 * i + 3 - shift / 8);
            }
        }
    }

    private void feedingTooMuch() {
        check.says(2, "NONE, doing nothing, if there would be more than 500");
        RightTurns x = new RightTurns();
        int[] last = Texts.numbersOf("         corner 7 8;", 0);
        for (int i = 1; i <= 24; i++) {
            check.due("feed " + i, x.feed(0x20202020, 0x20202020, 0x20202020, 0x20202020, 0x20202020), 20 * i);
        }
        check.due("480", x.count(2), 480);
        check.due("to 500 just", x.feed(last[0], last[1], last[2], last[3], last[4]), 500);
        check.due("not to 520", x.feed(0, 0, 0, 0, 0), NONE);
        check.due("nor again", x.feed(-1, -1, -1, -1, -1), NONE);
        check.due("500 are there", x.count(2), 500);
        check.due("as they were", x.town(500), 1);
        check.due("then there is room", x.feed(0, 0, 0, 0, 0), 20);
    }

    private void townOfTape() {
        check.says(3, "The first n bytes of the TAPE (empty then) are the TOWN (time 0, no TOLD RIDE, no IMAGES)");
        RightTurns x = Texts.townOf(HOOK + "no 0 1;may 0 1;box 0;rider 0 1 5;one 0;");
        x.sign(1, 0, true);
        x.tell(0);
        x.image();
        Texts.feed(x, "corner 5 5;corner 6 6;corner 7 7;");
        check.due("a clause less than there are", x.town(22), 2);
        check.due("the tape is empty", x.count(2), 0);
        check.throwsIllegal("nothing is left of it", () -> x.town(1));
        check.due("time 0", x.told(5), 0);
        check.throwsIllegal("no time 1", () -> x.open(1, 0));
        check.due("no told ride", x.count(0), 0);
        check.due("no images", x.count(1), 0);
        check.due("none to come back to", x.restore(), -1);
        check.due("nothing of the one before", x.told(1) + x.told(2) + x.told(3) + x.told(4), 0);
        townsInARow();
        Texts.feed(x, "corner 5 5;corner 6 6;");
        check.due("none of the bytes", x.town(0), 0);
        check.due("no corners", x.told(0), 0);
        check.due("empty as well", x.count(2), 0);
    }

    /** Whatever was told before, with or without a fault, nothing of it is left. */
    private void townsInARow() {
        String rich = "no 0 1;may 0 1;box 0;rider 0 1 5;";
        String turned = "corner9 9;corner8 9;corner8 8;street1 0 3;street0 2 3;street2 1 3;street0 1 4;one 3;" + rich;
        for (String before : List.of(HOOK + rich + "one 1;", turned, turned + "corner", HOOK + rich + "box 9;")) {
            RightTurns x = new RightTurns();
            Texts.tell(x, before);
            Texts.tell(x, turned);
            Texts.tell(x, before);
            Texts.tell(x, HOOK);
            check.due("behind " + before, Answers.of(x), Answers.of(Texts.townOf(HOOK)));
        }
    }

    private void townAnswers() {
        check.says(3, "how many CORNERS");
        RightTurns x = new RightTurns();
        check.due("none of an empty tape", x.town(0), 0);
        check.due("one", Texts.tell(x, "corner 0 0;"), 1);
        check.due("sixteen", Texts.tell(x, Texts.row(16)), 16);
        check.due("none again", x.town(0), 0);
        check.says(3, "or the FAULT less 10");
        check.due("1", Texts.tell(x, "corner"), -9);
        check.due("2", Texts.tell(x, "corner 0 100;"), -8);
        check.due("3", Texts.tell(x, Texts.row(16) + "corner 0 1;"), -7);
    }

    private void townStays() {
        check.says(3, "(the TOWN stays)");
        for (String faulty : List.of(";", "corner 0 0;corner 0 0;", Texts.row(16) + "corner 0 1;",
                "corner9 9;corner8 8;street0 1 99;no0 1;", "corner9 9;corner8 7;corner6 6;street0 1 9;street0 2 9;may0 1;box")) {
            RightTurns x = Texts.townOf(HOOK + "one 1;no 1 0;may 0 1;box 2;rider 0 1 5;");
            RightTurns y = Texts.townOf(HOOK + "one 1;no 1 0;may 0 1;box 2;rider 0 1 5;");
            for (RightTurns turns : List.of(x, y)) {
                turns.sign(0, 1, true);
                turns.tell(0);
                turns.tell(1);
                turns.image();
                turns.sign(0, 1, false);
            }
            check.due("a fault in " + faulty, Texts.tell(x, faulty) < 0, true);
            check.due("all as it was", Answers.of(x), Answers.of(y));
            check.due("the image is there", x.restore(), 0);
            check.due("but the tape is empty", x.count(2), 0);
        }
    }

    private void townRefused() {
        check.says(3, "IllegalArgumentException: n is not 0 to the TAPE's bytes (it stays)");
        RightTurns x = new RightTurns();
        check.throwsIllegal("of an empty tape", () -> x.town(1));
        check.throwsIllegal("below", () -> x.town(-1));
        Texts.feed(x, "corner1 2;corner3 4;");
        for (int n : new int[] {Integer.MIN_VALUE, -20, -1, 21, 40, 500, 501, 256 + 20, 65536, Integer.MAX_VALUE}) {
            check.throwsIllegal("town(" + n + ")", () -> x.town(n));
            check.due("the tape stays", x.count(2), 20);
        }
        check.due("with its bytes", x.town(20), 2);
        check.due("0 of 0", x.town(0), 0);
        Texts.feed(x, " ".repeat(500));
        check.throwsIllegal("501 of 500", () -> x.town(501));
        check.due("500 of 500", x.town(500), 0);
        Texts.feed(x, " ".repeat(20));
        check.due("0 of 20", x.town(0), 0);
    }

    private void faultPlace() {
        check.says(4, "The place of the FAULT of the latest town()");
        RightTurns x = new RightTurns();
        Texts.tell(x, ";");
        check.due("at 0", x.fault(), 0);
        check.due("asked again", x.fault(), 0);
        Texts.tell(x, "corner 0 0;corner 0 0;");
        check.due("of the latest", x.fault(), 20);
        Texts.tell(x, " ".repeat(489) + "corner 0 00");
        check.due("at 500", x.fault(), 500);
        check.throwsIllegal("town(1)", () -> x.town(1));
        check.due("a refused one is none", x.fault(), 500);
        check.says(4, "NONE without");
        check.due("of a new object", new RightTurns().fault(), NONE);
        Texts.tell(x, "corner 0 0;");
        check.due("behind a fault none", x.fault(), NONE);
        Texts.tell(x, "box");
        x.town(0);
        check.due("an empty text has none", x.fault(), NONE);
    }
}
