import java.util.ArrayList;
import java.util.List;
import java.util.concurrent.Callable;

/** A refused call leaves all as it was: an object that had it answers as its twin that had not. */
public final class RefusedTest {
    private static final String TOWN = "corner0 0;corner9 0;corner9 9;corner0 9;"
            + "street0 1 9;street1 2 8;street2 3 7;street3 0 6;street0 2 5;one4;no3 2;may0 1;box1;box3;"
            + "rider0 2 0;rider2 0 1;rider1 3 2;";

    private final Check check = new Check();

    public static void main(String[] args) {
        RefusedTest test = new RefusedTest();
        test.exceptions();
        test.soAlready();
        test.twoHundredChanges();
        test.fullTape();
        test.fullStory();
        test.fullImages();
        test.noImage();
        test.asking();
        test.check.end();
    }

    /** A town in the middle of its use: changes, a told ride, two images, twenty bytes on the tape. */
    private static RightTurns used() {
        RightTurns x = Texts.townOf(TOWN);
        x.sign(0, 1, true);
        x.tell(0);
        x.image();
        x.allow(1, 2, true);
        x.back(0);
        x.tell(1);
        x.tell(2);
        x.image();
        x.sign(1, 0, true);
        Texts.feed(x, "corner3 4;corner5 6;");
        return x;
    }

    /** All answers, then what images and the tape hold. */
    private static String all(RightTurns x) {
        StringBuilder text = new StringBuilder(Answers.of(x));
        text.append(x.fault()).append(' ').append(x.count(2)).append('\n');
        int images = x.count(1);
        for (int i = 0; i < images; i++) {
            text.append(x.restore()).append(' ').append(x.told(5)).append(' ').append(x.count(0)).append(' ')
                    .append(x.breaks(0, 0)).append(' ').append(x.stands(0, 1, x.told(5), 0)).append('\n');
        }
        int bytes = x.count(2);
        text.append(Check.answerOf(() -> x.town(bytes))).append(' ').append(x.fault());
        return text.toString();
    }

    private void refuse(RightTurns x, RightTurns twin, String refusal, List<Callable<?>> calls) {
        for (int i = 0; i < calls.size(); i++) {
            check.due("call " + i, Check.answerOf(calls.get(i)), refusal);
        }
        check.due("all as it was", all(x), all(twin));
    }

    private void exceptions() {
        check.says(3, "IllegalArgumentException: n is not 0 to the TAPE's bytes (it stays)");
        RightTurns x = used();
        refuse(x, used(), Check.ILLEGAL, List.of(() -> x.town(-1), () -> x.town(21)));
        check.says(5, "IllegalArgumentException: another what (so below)");
        RightTurns y = used();
        refuse(y, used(), Check.ILLEGAL, List.of(() -> y.told(6), () -> y.street(0, 4), () -> y.stands(0, 1, 0, 2),
                () -> y.reach(0, 0, 3), () -> y.parts(0, 2), () -> y.open(0, 2), () -> y.fewest(0, 2),
                () -> y.cheapest(0, 2), () -> y.exchange(0, 2), () -> y.traffic(4), () -> y.breaks(0, 2),
                () -> y.gain(0, 2), () -> y.baker(0, 2), () -> y.home(3), () -> y.home(-1)));
        check.says(6, "NoSuchElementException: no such STREET (so below)");
        RightTurns z = used();
        List<Callable<?>> calls = new ArrayList<>();
        for (int wrong : new int[] {-1, 5}) {
            calls.add(() -> z.street(wrong, 0));
            calls.add(() -> z.sign(wrong, 0, true));
            calls.add(() -> z.sign(0, wrong, false));
            calls.add(() -> z.allow(wrong, 0, true));
            calls.add(() -> z.allow(0, wrong, false));
            calls.add(() -> z.stands(wrong, 0, 0, 0));
            calls.add(() -> z.counts(wrong));
        }
        for (int wrong : new int[] {-1, 9, 10}) {
            calls.add(() -> z.turn(wrong, 0));
            calls.add(() -> z.may(0, wrong, 0));
            calls.add(() -> z.together(wrong, 0, 0));
        }
        refuse(z, used(), Check.NO_SUCH, calls);
        timesAndCorners();
    }

    private void timesAndCorners() {
        check.says(8, "IllegalArgumentException: no such time (so below, \"time\")");
        RightTurns x = used();
        List<Callable<?>> calls = new ArrayList<>();
        for (int wrong : new int[] {-1, 5}) {
            calls.addAll(List.of(() -> x.may(0, 2, wrong), () -> x.back(wrong), () -> x.stands(0, 1, wrong, 0),
                    () -> x.ride(0, 1, wrong), () -> x.step(0, 1, wrong, 0), () -> x.reach(0, wrong, 0),
                    () -> x.parts(wrong, 0), () -> x.open(wrong, 0), () -> x.since(0, 1, wrong, true)));
            calls.addAll(List.of(() -> x.candidates(wrong), () -> x.fewest(wrong, 0), () -> x.cheapest(wrong, 0),
                    () -> x.exchange(wrong, 0), () -> x.round(0, wrong), () -> x.bound(0, wrong),
                    () -> x.breaks(wrong, 0), () -> x.cut(wrong), () -> x.sure(wrong, 0), () -> x.gain(wrong, 0)));
        }
        calls.addAll(List.of(() -> x.sign(0, 0, true), () -> x.allow(1, 1, false), () -> x.sign(0, 2, true),
                () -> x.allow(1, 3, true)));
        refuse(x, used(), Check.ILLEGAL, calls);
        check.says(13, "IndexOutOfBoundsException: no such CORNER (so below, ahead of others)");
        RightTurns y = used();
        List<Callable<?>> corners = new ArrayList<>();
        for (int wrong : new int[] {-1, 4}) {
            corners.addAll(List.of(() -> y.ride(wrong, 0, 0), () -> y.step(0, wrong, 0, 0), () -> y.reach(wrong, 0, 0),
                    () -> y.since(0, wrong, 0, true), () -> y.round(wrong, 0), () -> y.bound(wrong, 0),
                    () -> y.tell(wrong), () -> y.detour(wrong, 0, 0)));
        }
        refuse(y, used(), Check.OUT, corners);
    }

    private void soAlready() {
        check.says(9, "-2: it is so already");
        RightTurns x = used();
        refuse(x, used(), "-2", List.of(() -> x.sign(3, 2, true), () -> x.sign(1, 0, true), () -> x.sign(0, 1, false),
                () -> x.allow(0, 1, true), () -> x.allow(1, 2, false)));
    }

    private static RightTurns changed() {
        RightTurns x = Texts.townOf(TOWN);
        x.image();
        for (int i = 1; i <= 200; i++) {
            x.allow(1, 2, i % 2 == 1);
        }
        return x;
    }

    private void twoHundredChanges() {
        check.says(9, "-1: there are 200 CHANGES");
        RightTurns x = changed();
        refuse(x, changed(), "-1", List.of(() -> x.sign(0, 1, true), () -> x.sign(3, 2, false), () -> x.allow(1, 2, true),
                () -> x.allow(0, 1, false), () -> x.allow(1, 2, false)));
        check.says(11, "-1");
        RightTurns y = changed();
        refuse(y, changed(), "-1", List.of(() -> y.back(0), () -> y.back(100), () -> y.back(200)));
    }

    private static RightTurns fed() {
        RightTurns x = Texts.townOf(TOWN);
        Texts.feed(x, " ".repeat(490) + "corner7 7;");
        return x;
    }

    private void fullTape() {
        check.says(2, "NONE, doing nothing, if there would be more than 500");
        RightTurns x = fed();
        refuse(x, fed(), "-1", List.of(() -> x.feed(0, 0, 0, 0, 0), () -> x.feed(-1, -1, -1, -1, -1)));
    }

    private static RightTurns toldTwelve() {
        RightTurns x = used();
        for (int i = 3; i < 12; i++) {
            x.tell(i % 4);
        }
        return x;
    }

    private void fullStory() {
        check.says(30, "-1: there are 12");
        RightTurns x = toldTwelve();
        refuse(x, toldTwelve(), "-1", List.of(() -> x.tell(0), () -> x.tell(3)));
    }

    private static RightTurns threeImages() {
        RightTurns x = used();
        x.image();
        x.allow(1, 2, true);
        x.forget();
        return x;
    }

    private void fullImages() {
        check.says(38, "-1: there are 3");
        RightTurns x = threeImages();
        refuse(x, threeImages(), "-1", List.of(() -> x.image(), () -> x.image()));
    }

    private static RightTurns noImages() {
        RightTurns x = used();
        x.restore();
        x.restore();
        x.sign(1, 0, true);
        x.tell(3);
        return x;
    }

    private void noImage() {
        check.says(39, "-1: there is none");
        RightTurns x = noImages();
        refuse(x, noImages(), "-1", List.of(() -> x.restore(), () -> x.restore()));
    }

    /** Who asks for nothing but answers changes none of them, either. */
    private void asking() {
        check.says(0, "at each time, from 0 on, the town can be asked");
        RightTurns x = used();
        String first = Answers.of(x);
        check.due("asked again", Answers.of(x), first);
        check.due("and of a twin", Answers.of(used()), first);
    }
}
