import java.util.Random;
import java.util.concurrent.Callable;

/** Random towns and calls: the class and the oracle must answer alike. The seeds are fixed. */
public final class OracleTest {
    private static final int LARGE_TOWNS = 15;

    private final Random random;
    private final Check check;
    private RightTurns turns = new RightTurns();
    private Oracle oracle = new Oracle();
    private String name = "";
    private int manyCandidates = 0;

    private OracleTest(long seed, Check check) {
        this.random = new Random(seed);
        this.check = check;
        this.name = "seed " + seed;
    }

    public static void main(String[] args) {
        int seeds = args.length > 0 ? Integer.parseInt(args[0]) : 300;
        int from = args.length > 1 ? Integer.parseInt(args[1]) : 0;
        Check check = new Check();
        for (int seed = from; seed < from + seeds && check.isFine(); seed++) {
            new OracleTest(seed, check).run();
        }
        int opened = 0;
        for (int seed = from; opened < LARGE_TOWNS && seed < from + 100 * LARGE_TOWNS && check.isFine(); seed++) {
            opened += new OracleTest(seed, check).opensLargeTown() ? 1 : 0;
        }
        check.due("large towns that left turns open", opened, LARGE_TOWNS);
        check.end();
    }

    private void run() {
        for (int towns = 0; towns < 5; towns++) {
            tellTown(TownMaker.town(random));
            for (int calls = 0; calls < 50 && check.isFine(); calls++) {
                anyCall();
            }
        }
        for (int towns = 0; towns < 20 && check.isFine(); towns++) {
            tellTown(TownMaker.spoil(TownMaker.town(random), random));
            for (int calls = 0; calls < 3 && check.isFine(); calls++) {
                anyCall();
            }
        }
    }

    /** Of a large town with 9 candidates or more, that no single one opens: the oracle takes long, so these are few. */
    private boolean opensLargeTown() {
        tellTown(TownMaker.grid(random));
        for (int k = 0; k < turns.told(4); k++) {
            int pair = turns.left(k);
            if (random.nextInt(10) < 2) {
                same("allow " + pair, () -> turns.allow(pair / 100, pair % 100, true),
                        () -> oracle.allow(pair / 100, pair % 100, true));
            }
        }
        int now = turns.told(5);
        if (turns.candidates(now) < 9 || turns.fewest(now, 0) < 2) {
            return false;
        }
        for (int what = 0; what < 2; what++) {
            int w = what;
            same("fewest " + w, () -> turns.fewest(now, w), () -> oracle.fewest(now, w));
            same("cheapest " + w, () -> turns.cheapest(now, w), () -> oracle.cheapest(now, w));
        }
        return true;
    }

    private void same(String call, Callable<?> got, Callable<?> want) {
        String answer = Check.answerOf(got);
        check.due(name + ": " + call, answer, Check.answerOf(want));
    }

    private void tellTown(String text) {
        for (int from = 0; from < text.length(); from += 20) {
            int[] n = Texts.numbersOf(text, from);
            same("feed", () -> turns.feed(n[0], n[1], n[2], n[3], n[4]), () -> oracle.feed(n));
        }
        // now and then less than there is, so that what stands behind must not be looked at
        int n = random.nextInt(6) == 0 ? random.nextInt(text.length() + 1) : text.length();
        same("town " + text, () -> turns.town(n), () -> oracle.town(n));
        same("fault " + text, () -> turns.fault(), () -> oracle.fault());
        name = name.split(":")[0] + ": " + text.substring(0, n);
    }

    private int any(int most) {
        return random.nextInt(most + 2) - (random.nextInt(8) == 0 ? 1 : 0);
    }

    private int anyTime() {
        int now = turns.told(5);
        return random.nextInt(15) == 0 ? random.nextInt(4) - 2 + now + 1 : random.nextInt(now + 1);
    }

    private int anyCorner() {
        int many = turns.told(0);
        return random.nextInt(30) == 0 || many == 0 ? random.nextInt(18) - 1 : random.nextInt(many);
    }

    private int anyStreet() {
        int many = turns.told(1);
        return random.nextInt(30) == 0 || many == 0 ? random.nextInt(26) - 1 : random.nextInt(many);
    }

    private int anyArc() {
        return 2 * anyStreet() + random.nextInt(2);
    }

    private void anyCall() {
        int t = anyTime();
        int from = anyCorner();
        int to = anyCorner();
        int s = anyStreet();
        int o = anyStreet();
        int a = anyArc();
        int b = anyArc();
        int what = random.nextInt(30) == 0 ? 2 - 3 * random.nextInt(2) : random.nextInt(2);
        boolean is = random.nextInt(3) > 0;
        String args = " t=" + t + " from=" + from + " to=" + to + " s=" + s + " o=" + o + " a=" + a + " b=" + b
                + " what=" + what + " is=" + is;
        switch (random.nextInt(42)) {
            case 0 -> {
                int w = any(5);
                same("told" + w, () -> turns.told(w), () -> oracle.told(w));
            }
            case 1 -> {
                int w = any(3);
                same("street" + w + args, () -> turns.street(s, w), () -> oracle.street(s, w));
            }
            case 2 -> same("turn" + args, () -> turns.turn(a, b), () -> oracle.turn(a, b));
            case 3 -> same("may" + args, () -> turns.may(a, b, t), () -> oracle.may(a, b, t));
            case 4, 5, 6 -> change(s, o, is, true, args);
            case 7, 8, 9 -> change(s, o, is, false, args);
            case 10 -> same("back" + args, () -> turns.back(t), () -> oracle.back(t));
            case 11 -> same("stands" + args, () -> turns.stands(s, o, t, what), () -> oracle.stands(s, o, t, what));
            case 12 -> same("ride" + args, () -> turns.ride(from, to, t), () -> oracle.ride(from, to, t));
            case 13, 14 -> {
                int k = any(6);
                same("step" + k + args, () -> turns.step(from, to, t, k), () -> oracle.step(from, to, t, k));
            }
            case 15 -> {
                int w = any(2);
                same("reach" + w + args, () -> turns.reach(from, t, w), () -> oracle.reach(from, t, w));
            }
            case 16 -> same("parts" + args, () -> turns.parts(t, what), () -> oracle.parts(t, what));
            case 17 -> same("together" + args, () -> turns.together(a, b, t), () -> oracle.together(a, b, t));
            case 18 -> same("open" + args, () -> turns.open(t, what), () -> oracle.open(t, what));
            case 19 -> same("since" + args, () -> turns.since(from, to, t, is), () -> oracle.since(from, to, t, is));
            case 20 -> {
                int k = any(30);
                same("left" + k, () -> turns.left(k), () -> oracle.left(k));
            }
            case 21 -> same("candidates" + args, () -> turns.candidates(t), () -> oracle.candidates(t));
            case 22, 23 -> opening(t, what, args);
            case 24 -> same("exchange" + args, () -> turns.exchange(t, what), () -> oracle.exchange(t, what));
            case 25 -> same("round" + args, () -> turns.round(from, t), () -> oracle.round(from, t));
            case 26 -> same("bound" + args, () -> turns.bound(from, t), () -> oracle.bound(from, t));
            case 27 -> {
                int r = any(4);
                same("home" + r, () -> turns.home(r), () -> oracle.home(r));
            }
            case 28 -> {
                int w = any(3);
                same("traffic" + w, () -> turns.traffic(w), () -> oracle.traffic(w));
            }
            case 29 -> same("counts" + args, () -> turns.counts(s), () -> oracle.counts(s));
            case 30 -> walk();
            case 31 -> same("forget", () -> turns.forget(), () -> oracle.forget());
            case 32, 33 -> story(t, what, args);
            case 34 -> same("cut" + args, () -> turns.cut(t), () -> oracle.cut(t));
            case 35 -> same("detour" + args, () -> turns.detour(from, to, t), () -> oracle.detour(from, to, t));
            case 36 -> same("gain" + args, () -> turns.gain(t, what), () -> oracle.gain(t, what));
            case 37 -> same("baker" + args, () -> turns.baker(t, what), () -> oracle.baker(t, what));
            case 38 -> same("image", () -> turns.image(), () -> oracle.image());
            case 39 -> same("restore", () -> turns.restore(), () -> oracle.restore());
            case 40 -> {
                int w = any(3);
                same("count" + w, () -> turns.count(w), () -> oracle.count(w));
            }
            default -> same("tell" + args, () -> turns.tell(from), () -> oracle.tell(from));
        }
    }

    private void change(int s, int o, boolean is, boolean sign, String args) {
        int other = o;
        int[] at = {0};
        // most pairs have no corner in common: look for one that has
        for (int tries = 0; tries < 6 && random.nextInt(10) > 0 && !meets(s, other, at); tries++) {
            other = anyStreet();
        }
        int then = other;
        if (sign) {
            same("sign with " + then + args, () -> turns.sign(s, then, is), () -> oracle.sign(s, then, is));
        } else {
            same("allow with " + then + args, () -> turns.allow(s, then, is), () -> oracle.allow(s, then, is));
        }
    }

    private boolean meets(int s, int o, int[] at) {
        int many = turns.told(1);
        if (s < 0 || o < 0 || s >= many || o >= many || s == o) {
            return false;
        }
        for (int i = 0; i < 4; i++) {
            if (turns.street(s, i / 2) == turns.street(o, i % 2)) {
                return true;
            }
        }
        return false;
    }

    private void opening(int t, int what, String args) {
        boolean known = t >= 0 && t <= turns.told(5);
        // the oracle tries all sets, so many candidates are rarely asked for
        if (known && turns.candidates(t) > 8 && (manyCandidates > 0 || turns.told(0) > 9)) {
            return;
        }
        if (known && turns.candidates(t) > 8) {
            manyCandidates++;
        }
        if (random.nextBoolean()) {
            same("fewest" + args, () -> turns.fewest(t, what), () -> oracle.fewest(t, what));
        } else {
            same("cheapest" + args, () -> turns.cheapest(t, what), () -> oracle.cheapest(t, what));
        }
    }

    /** Some corners more for the told ride, most of them along streets. */
    private void walk() {
        int corner = anyCorner();
        for (int i = 0; i < random.nextInt(9) + 1; i++) {
            int at = corner;
            same("tell " + at, () -> turns.tell(at), () -> oracle.tell(at));
            for (int tries = 0; tries < 12; tries++) {
                int s = anyStreet();
                if (s >= 0 && s < turns.told(1) && turns.street(s, 0) == at) {
                    corner = turns.street(s, 1);
                } else if (s >= 0 && s < turns.told(1) && turns.street(s, 1) == at) {
                    corner = turns.street(s, 0);
                }
            }
        }
    }

    private void story(int t, int what, String args) {
        if (turns.count(0) < 3) {
            walk();
        }
        if (oracle.isTooLong()) {
            return;
        }
        int k = any(3);
        same("breaks" + args, () -> turns.breaks(t, what), () -> oracle.breaks(t, what));
        same("sure" + k + args, () -> turns.sure(t, k), () -> oracle.sure(t, k));
    }
}
