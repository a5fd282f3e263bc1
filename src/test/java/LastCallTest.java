import java.util.ArrayList;
import java.util.List;

/** Each method as the 512th call of an object that has been used to its bounds, and as the 511th. */
public final class LastCallTest {
    private static final int NONE = RightTurns.NONE;
    private static final int LAST = 512;

    /** Ten boxes round a bow, and three riders. */
    private static final String TOWN = Texts.ring("box0;box1;box2;box3;box4;box5;box6;box7;box8;box9;"
            + "rider0 5 0;rider5 0 0;rider10 1 99;");

    /** One call of a method and its answer. */
    private interface Asked {
        Object of(RightTurns x) throws Exception;
    }

    private record Due(String call, Asked asked, Object answer) {
    }

    private final Check check = new Check();

    public static void main(String[] args) {
        LastCallTest test = new LastCallTest();
        test.check.says(0, "An object is used for at most 512 calls after it has been made");
        test.eachAsLast();
        test.feedsAlone();
        test.townsAlone();
        test.exceptionsAlone();
        test.check.end();
    }

    /** An object behind so many calls: 200 changes, twelve corners told, three images, half of the tape. */
    private static RightTurns usedFor(int calls) {
        RightTurns x = new RightTurns();
        int made = (TOWN.length() + 19) / 20 + 1;
        Texts.tell(x, TOWN);
        for (int i = 1; i <= 200; i++) {
            x.sign(4, 5, i % 2 == 1);
        }
        for (int i = 0; i < 12; i++) {
            x.tell(i % 2 == 0 ? 10 : 9);
        }
        for (int i = 0; i < 3; i++) {
            x.image();
        }
        made += 200 + 12 + 3;
        for (int i = 0; i < 13; i++) {
            x.feed(0x20202020, 0x20202020, 0x20202020, 0x20202020, 0x20202020);
            made++;
        }
        for (int i = made; i < calls; i++) {
            x.round(i % 11, i % 201);
        }
        return x;
    }

    private static List<Due> all() {
        List<Due> all = new ArrayList<>(List.of(
                new Due("feed", x -> x.feed(1, 2, 3, 4, 5), 280), new Due("town", x -> x.town(260), 0),
                new Due("fault", x -> x.fault(), NONE), new Due("told", x -> x.told(5), 200),
                new Due("street", x -> x.street(10, 0), 10), new Due("turn", x -> x.turn(0, 2), 1),
                new Due("may", x -> x.may(8, 10, 199), false), new Due("sign", x -> x.sign(4, 5, true), -1),
                new Due("allow", x -> x.allow(4, 5, true), -1), new Due("back", x -> x.back(0), -1),
                new Due("stands", x -> x.stands(4, 5, 199, 0), true), new Due("ride", x -> x.ride(0, 10, 200), 1),
                new Due("step", x -> x.step(0, 5, 200, 4), 8), new Due("reach", x -> x.reach(0, 200, 0), 2047)));
        all.addAll(List.of(
                new Due("parts", x -> x.parts(200, 1), 11), new Due("together", x -> x.together(0, 20, 200), true),
                new Due("open", x -> x.open(200, 1), 110), new Due("since", x -> x.since(3, 6, 2, false), 3),
                new Due("left", x -> x.left(0), 10), new Due("candidates", x -> x.candidates(200), 11),
                new Due("fewest", x -> x.fewest(200, 0), 0), new Due("cheapest", x -> x.cheapest(200, 1), 0),
                new Due("exchange", x -> x.exchange(200, 0), NONE), new Due("round", x -> x.round(0, 200), 11),
                new Due("bound", x -> x.bound(10, 200), 11), new Due("home", x -> x.home(2), 101),
                new Due("traffic", x -> x.traffic(0), 102), new Due("counts", x -> x.counts(4), 1)));
        all.addAll(List.of(
                new Due("tell", x -> x.tell(0), -1), new Due("forget", x -> x.forget(), 12),
                new Due("breaks", x -> x.breaks(200, 0), 10L), new Due("cut", x -> x.cut(200), 0),
                new Due("sure", x -> x.sure(200, 0), 909), new Due("detour", x -> x.detour(0, 5, 200), 0),
                new Due("gain", x -> x.gain(200, 0), NONE), new Due("baker", x -> x.baker(200, 0), 0),
                new Due("image", x -> x.image(), -1), new Due("restore", x -> x.restore(), 2),
                new Due("count", x -> x.count(2), 260), new Due("no time", x -> x.ride(0, 1, 201), Check.ILLEGAL)));
        return all;
    }

    private void eachAsLast() {
        for (Due due : all()) {
            for (int ahead : new int[] {LAST - 2, LAST - 1}) {
                RightTurns x = usedFor(ahead);
                check.due(due.call + " as call " + (ahead + 1), Check.answerOf(() -> due.asked.of(x)), String.valueOf(due.answer));
            }
        }
    }

    private void feedsAlone() {
        RightTurns x = new RightTurns();
        for (int i = 1; i <= LAST; i++) {
            check.due("feed " + i, x.feed(i, i, i, i, i), i <= 25 ? 20 * i : NONE);
        }
    }

    private void townsAlone() {
        RightTurns x = new RightTurns();
        int[] n = Texts.numbersOf("corner1 2;corner3 4;", 0);
        for (int i = 1; i <= LAST / 2; i++) {
            check.due("feed", x.feed(n[0], n[1], n[2], n[3], n[4]), 20);
            check.due("town " + i, x.town(i % 2 == 0 ? 20 : 10), i % 2 == 0 ? 2 : 1);
        }
    }

    private void exceptionsAlone() {
        RightTurns x = new RightTurns();
        for (int i = 1; i < LAST; i++) {
            check.throwsOut("ride " + i, () -> x.ride(0, 0, 0));
        }
        check.due("the 512th", x.open(0, 0), 1);
    }
}
