/** The bounds of traffic by rounds: sentence by sentence. */
public final class TrafficBoundsTest {
    private static final int NONE = RightTurns.NONE;

    /** Two corners with a street of 1. */
    private static final String PAIR = Texts.row(2) + "street0 1 1;";

    /** 0 in the middle; 1, 2, 3 and 4 east, north, west and south of it, 5 away. */
    private static final String CROSS = "corner5 5;corner9 5;corner5 9;corner1 5;corner5 1;"
            + "street0 1 5;street0 2 5;street0 3 5;street0 4 5;";

    private final Check check = new Check();

    public static void main(String[] args) {
        TrafficBoundsTest test = new TrafficBoundsTest();
        test.begins();
        test.oneLess();
        test.goesOn();
        test.cameFirst();
        test.lesserNumber();
        test.eachCorner();
        test.waits();
        test.staysAway();
        test.asItIsNow();
        test.endsWhenAllAreHome();
        test.behind999();
        test.homeNone();
        test.noSuchRider();
        test.roundsTillItEnds();
        test.howManyAreHome();
        test.howOften();
        test.whoWaitsMost();
        test.counts();
        test.countsNoSuch();
        test.check.end();
    }

    private void home(String text, int... rounds) {
        RightTurns x = Texts.townOf(text);
        for (int r = 0; r < rounds.length; r++) {
            check.due("rider " + r + " of " + text, x.home(r), rounds[r]);
        }
    }

    private void begins() {
        check.says(0, "In each ROUND, RIDERS by number: who begins in it is on its first ARC, with its length to go");
        home(PAIR + "rider0 1 0;", 1);
        home(PAIR + "rider0 1 1;", 2);
        home(PAIR + "rider0 1 99;", 100);
        home(Texts.row(2) + "street0 1 99;rider0 1 99;", 198);
        // who begins at a corner where others wait is on its way at once
        home(PAIR + "rider0 1 0;rider0 1 0;rider1 0 1;", 1, 2, 2);
    }

    private void oneLess() {
        check.says(0, "who is on an ARC already, with some to go, has one less");
        for (int n : new int[] {1, 2, 50, 98, 99}) {
            home(Texts.row(2) + "street0 1 " + n + ";rider0 1 3;", 3 + n);
        }
    }

    private void goesOn() {
        check.says(0, "home, if it is its own, or on its next ARC, with its length to go");
        home(Texts.row(3) + "street0 1 1;street1 2 1;rider0 2 0;", 2);
        home(Texts.row(3) + "street0 1 7;street1 2 99;rider0 2 5;", 111);
        home(Texts.row(4) + "street0 1 7;street1 2 9;street2 3 1;rider0 3 0;rider3 0 0;", 17, 17);
    }

    private void cameFirst() {
        check.says(0, "the one who came there first (in the earliest ROUND");
        // 0 and 1 come to the middle in 5, 2 in 6: 0 goes on in 5, 1 in 6, 2 in 7
        home(CROSS + "rider1 3 0;rider2 4 0;rider3 1 1;", 10, 11, 12);
        // the earlier one has the greater number
        home(CROSS + "rider1 3 1;rider2 4 0;rider3 1 0;", 12, 10, 11);
        // who comes later waits for all who came earlier, whatever their numbers
        home(CROSS + "rider1 0 2;rider2 0 1;rider3 0 0;rider4 0 0;rider1 0 0;", 9, 8, 5, 6, 7);
    }

    private void lesserNumber() {
        check.says(0, "of these the lesser number) goes on");
        home(CROSS + "rider1 0 0;rider2 0 0;", 5, 6);
        home(CROSS + "rider2 0 0;rider1 0 0;", 5, 6);
        home(CROSS + "rider4 0 1;rider3 0 1;rider2 0 1;rider1 0 1;", 6, 7, 8, 9);
        // one at home there and one who goes on are alike
        home(CROSS + "rider1 3 0;rider2 0 0;", 10, 6);
        home(CROSS + "rider2 0 0;rider1 3 0;", 5, 11);
    }

    private void eachCorner() {
        check.says(0, "Then at each CORNER, of those there with nothing to go");
        // two come to each end in 1: of each end one goes home in each round
        home(PAIR + "rider0 1 0;rider1 0 0;rider0 1 0;rider1 0 0;", 1, 1, 2, 2);
        // on the way no corner holds anybody up who is not there yet
        home(Texts.row(3) + "street0 1 2;street1 2 2;rider0 2 0;rider2 0 0;rider1 2 0;", 4, 5, 2);
    }

    private void waits() {
        check.says(0, "others WAIT");
        RightTurns x = Texts.townOf(PAIR + "rider0 1 0;".repeat(12));
        for (int r = 0; r < 12; r++) {
            check.due("one by one", x.home(r), 1 + r);
        }
        check.due("0 and 1 and so on to 11", x.traffic(2), 66);
        check.due("the last waits most", x.traffic(3), 11);
        check.due("rounds", x.traffic(0), 13);
        check.due("all home", x.traffic(1), 12);
    }

    private void staysAway() {
        check.says(0, "one without a RIDE stays away");
        RightTurns x = Texts.townOf(PAIR + "corner5 5;rider0 2 0;rider2 0 0;rider0 1 0;");
        check.due("no street to it", x.home(0), NONE);
        check.due("no street from it", x.home(1), NONE);
        check.due("the third rides", x.home(2), 1);
        check.due("nobody waits for those", x.traffic(2), 0);
        check.due("nor do rounds", x.traffic(0), 2);
        check.due("one is home", x.traffic(1), 1);
    }

    private static String barredNow(RightTurns x) {
        x.sign(0, 1, true);
        return x.traffic(0) + " " + x.traffic(1) + " " + x.traffic(2) + " " + x.home(0) + " " + x.counts(1);
    }

    private void asItIsNow() {
        check.says(0, "TRAFFIC, from ROUND 0 on: each RIDER takes SHORTEST (of all those the first) as the town is "
                + "now");
        RightTurns x = Texts.townOf("corner0 0;corner1 0;corner1 1;street0 1 5;street1 2 7;rider0 2 0;");
        check.due("left", x.home(0), NONE);
        x.allow(0, 1, true);
        check.due("allowed", x.home(0), 12);
        check.due("thirteen rounds", x.traffic(0), 13);
        check.due("street 1 is passed", x.counts(1), 1);
        x.sign(1, 0, true);
        check.due("a sign elsewhere", x.home(0), 12);
        check.due("nothing of the traffic before is left", barredNow(x), "0 0 0 -1 0");
        x.back(1);
        check.due("as at 1", x.home(0), 12);
        x.image();
        x.back(0);
        check.due("as at 0", x.home(0), NONE);
        x.restore();
        check.due("as in the image", x.home(0), 12);
        RightTurns first = Texts.townOf(Texts.row(2) + "street0 1 5;street0 1 5;street0 1 4;street0 1 4;rider0 1 0;");
        check.due("the first of the shortest", first.counts(2), 1);
        check.due("no other", first.counts(0) + first.counts(1) + first.counts(3), 0);
    }

    private void endsWhenAllAreHome() {
        check.says(0, "It ends when all are home");
        check.due("home in 1: two rounds", Texts.townOf(PAIR + "rider0 1 0;").traffic(0), 2);
        check.due("home in 1 and 100", Texts.townOf(PAIR + "rider0 1 0;rider0 1 99;").traffic(0), 101);
        check.due("whoever stays away", Texts.townOf(PAIR + "corner5 5;rider0 1 0;rider0 2 99;").traffic(0), 2);
    }

    /** A row of twelve, each 99 from the next, so that 0 to 10 is 990 long. */
    private static String longRow() {
        StringBuilder line = new StringBuilder(Texts.row(12));
        for (int i = 0; i < 11; i++) {
            line.append("street").append(i).append(' ').append(i + 1).append(" 99;");
        }
        return line.toString();
    }

    private void behind999() {
        check.says(0, "or behind 999 ROUNDS");
        RightTurns early = Texts.townOf(longRow() + "rider0 10 7;");
        check.due("home in 997", early.home(0), 997);
        check.due("998 rounds", early.traffic(0), 998);
        RightTurns just = Texts.townOf(longRow() + "rider0 10 8;");
        check.due("home in 998", just.home(0), 998);
        check.due("999 rounds", just.traffic(0), 999);
        check.due("one is home", just.traffic(1), 1);
        RightTurns late = Texts.townOf(longRow() + "rider0 10 9;");
        check.due("not home in 999", late.home(0), NONE);
        check.due("999 rounds, too", late.traffic(0), 999);
        check.due("nobody is home", late.traffic(1), 0);
        RightTurns waits = Texts.townOf(longRow() + "rider0 10 8;rider0 10 8;");
        check.due("the first is home", waits.home(0), 998);
        check.due("the other one has waited once on its way already", waits.traffic(2), 1);
        check.due("and comes too late", waits.home(1), NONE);
        RightTurns last = Texts.townOf(longRow().replace("street9 10 99;", "street9 10 98;") + "rider0 10 9;rider11 10 99;");
        check.due("in 998 by 989", last.home(0), 998);
        check.due("the other long before", last.home(1), 198);
    }

    private void homeNone() {
        check.says(27, "TRAFFIC: the ROUND in which a RIDER is home");
        home(PAIR + "rider0 1 0;rider1 0 99;", 1, 100);
        check.says(27, "NONE: it stays away, or isn't");
        RightTurns x = Texts.townOf(longRow() + "corner0 5;rider0 12 0;rider0 11 0;rider0 10 0;");
        check.due("stays away", x.home(0), NONE);
        check.due("isn't home, 1089 rounds away", x.home(1), NONE);
        check.due("is", x.home(2), 991);
    }

    private void noSuchRider() {
        check.says(27, "IllegalArgumentException: no such RIDER");
        check.only("without a town", 0, Check.ILLEGAL, new RightTurns()::home);
        check.only("without riders", 0, Check.ILLEGAL, Texts.townOf(PAIR)::home);
        check.only("one", 1, Check.ILLEGAL, Texts.townOf(PAIR + "rider0 1 0;")::home);
        check.only("twelve", 12, Check.ILLEGAL, Texts.townOf(PAIR + "rider0 1 0;".repeat(12))::home);
        check.only("those that stay away are some, too", 2, Check.ILLEGAL, Texts.townOf(Texts.row(2) + "rider0 1 0;rider1 0 0;")::home);
    }

    private void roundsTillItEnds() {
        check.says(28, "0 ROUNDS till it ends (the last one, too; 0: nobody rides)");
        check.due("without a town", new RightTurns().traffic(0), 0);
        check.due("without riders", Texts.townOf(PAIR).traffic(0), 0);
        check.due("all stay away", Texts.townOf(Texts.row(2) + "rider0 1 0;rider1 0 99;").traffic(0), 0);
        check.due("two", Texts.townOf(PAIR + "rider0 1 0;").traffic(0), 2);
        check.due("with the last one", Texts.townOf(PAIR + "rider0 1 99;").traffic(0), 101);
    }

    private void howManyAreHome() {
        check.says(28, "1 how many are home");
        check.due("without a town", new RightTurns().traffic(1), 0);
        check.due("without riders", Texts.townOf(PAIR).traffic(1), 0);
        check.due("one of two", Texts.townOf(PAIR + "corner5 5;rider0 2 0;rider0 1 0;").traffic(1), 1);
        check.due("twelve", Texts.townOf(PAIR + "rider0 1 99;".repeat(12)).traffic(1), 12);
    }

    private void howOften() {
        check.says(28, "2 how often RIDERS WAIT (each ROUND)");
        check.due("without a town", new RightTurns().traffic(2), 0);
        check.due("alone", Texts.townOf(PAIR + "rider0 1 0;").traffic(2), 0);
        check.due("two at once", Texts.townOf(PAIR + "rider0 1 0;rider0 1 0;").traffic(2), 1);
        check.due("three at once", Texts.townOf(PAIR + "rider0 1 0;rider0 1 0;rider0 1 0;").traffic(2), 3);
        check.due("of rider 0, too", Texts.townOf(PAIR + "rider0 1 1;rider0 1 0;rider0 1 0;rider0 1 0;").traffic(2), 5);
        check.due("one behind another", Texts.townOf(PAIR + "rider0 1 0;rider0 1 1;").traffic(2), 0);
        check.due("two to each end", Texts.townOf(PAIR + "rider0 1 0;rider0 1 0;rider1 0 0;rider1 0 0;").traffic(2), 2);
    }

    private void whoWaitsMost() {
        check.says(28, "3 who WAITS most (of these the first; NONE: nobody)");
        check.due("without a town", new RightTurns().traffic(3), NONE);
        check.due("without riders", Texts.townOf(PAIR).traffic(3), NONE);
        check.due("alone", Texts.townOf(PAIR + "rider0 1 0;").traffic(3), NONE);
        check.due("nobody waits", Texts.townOf(PAIR + "rider0 1 0;rider1 0 0;rider0 1 1;").traffic(3), NONE);
        check.due("the second", Texts.townOf(PAIR + "rider0 1 0;rider0 1 0;").traffic(3), 1);
        check.due("of two that wait once the first", Texts.townOf(PAIR + "rider0 1 0;rider0 1 0;rider1 0 0;rider1 0 0;").traffic(3), 1);
        check.due("twice is more than once", Texts.townOf(PAIR + "rider0 1 0;rider0 1 0;rider0 1 0;").traffic(3), 2);
        check.due("rider 0 can be it", Texts.townOf(PAIR + "rider0 1 1;rider0 1 0;rider0 1 0;rider0 1 0;").traffic(3), 0);
        check.only("what", 4, Check.ILLEGAL, Texts.townOf(PAIR + "rider0 1 0;")::traffic);
    }

    private void counts() {
        check.says(0, "COUNTS of a STREET: how many RIDERS' SHORTEST pass it, either way (each RIDER once)");
        check.due("no rider", Texts.townOf(PAIR).counts(0), 0);
        check.due("twelve", Texts.townOf(PAIR + "rider0 1 0;".repeat(12)).counts(0), 12);
        check.due("either way", Texts.townOf(PAIR + "rider0 1 0;rider1 0 0;").counts(0), 2);
        check.due("not those that stay away", Texts.townOf(PAIR + "corner5 5;rider0 2 0;rider0 1 0;").counts(0), 1);
        check.due("to and fro is once", Texts.townOf(Texts.TO_AND_FRO + "rider0 8 0;").counts(1), 1);
        check.due("those that come too late, too", Texts.townOf(longRow() + "rider0 11 99;").counts(10), 1);
        check.says(29, "COUNTS");
        RightTurns x = Texts.townOf(Texts.row(3) + "street0 1 1;street1 2 1;rider0 2 0;rider1 2 0;");
        check.due("the first", x.counts(0), 1);
        check.due("the last", x.counts(1), 2);
        x.sign(0, 1, true);
        check.due("as the town is now", x.counts(1), 1);
    }

    private void countsNoSuch() {
        check.says(6, "NoSuchElementException: no such STREET (so below)");
        check.only("without a town", 0, Check.NO_SUCH, new RightTurns()::counts);
        check.only("without streets", 0, Check.NO_SUCH, Texts.townOf(Texts.row(2))::counts);
        check.only("one", 1, Check.NO_SUCH, Texts.townOf(PAIR)::counts);
        check.only("24", 24, Check.NO_SUCH, Texts.townOf(Texts.row(2) + "street0 1 1;".repeat(24))::counts);
    }
}
