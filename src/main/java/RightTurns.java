import java.util.Arrays;
import java.util.NoSuchElementException;

/** Nobody turns left: a town of corners and streets, and the rides that its turns leave. */
public final class RightTurns {
    public static final int NONE = -1;

    private static final int MOST_BYTES = 500;
    private static final int FED_AT_ONCE = 20;
    private static final int MOST_CLAUSES = 60;
    private static final int MOST_CORNERS = 16;
    private static final int MOST_STREETS = 24;
    private static final int MOST_ARCS = 48;
    private static final int MOST_LEFTS = 552;
    private static final int MOST_BOXES = 10;
    private static final int MOST_RIDERS = 12;
    private static final int MOST_CHANGES = 200;
    private static final int MOST_CANDIDATES = 14;
    private static final int MOST_TOLD = 12;
    private static final int MOST_IMAGES = 3;
    private static final int MOST_ROUNDS = 999;
    private static final int HIGHEST_NUMBER = 99;

    /** Longer than any ride or sum of rides, and small enough that four of it still fit an int. */
    private static final int FAR = 1 << 28;

    private static final int BACKWARD = 0;
    private static final int RIGHTWARD = 1;
    private static final int STRAIGHT_ON = 2;
    private static final int LEFTWARD = 3;

    private static final int A_SIGN = 0;
    private static final int A_LEAVE = 1;
    private static final int A_RETURN = 2;

    private static final int CORNER_WORD = 0;
    private static final int STREET_WORD = 1;
    private static final int ONE_WORD = 2;
    private static final int NO_WORD = 3;
    private static final int MAY_WORD = 4;
    private static final int BOX_WORD = 5;
    private static final int RIDER_WORD = 6;

    private final int[] tape = new int[MOST_BYTES];
    private int tapeBytes = 0;
    private int faultPlace = NONE;
    private Town current = new Town();
    private Town spare = new Town();
    private final Reader reader = new Reader();
    private final Changes changes = new Changes();
    private final Rules rules = new Rules();
    private final Routes routes = new Routes();
    private final Choices choices = new Choices();
    private final Post post = new Post();
    private final Traffic riding = new Traffic();
    private final Story story = new Story();
    private final Images images = new Images();

    public RightTurns() {
    }

    public int feed(int a, int b, int c, int d, int e) {
        if (tapeBytes + FED_AT_ONCE > MOST_BYTES) {
            return NONE;
        }
        putNumber(a);
        putNumber(b);
        putNumber(c);
        putNumber(d);
        putNumber(e);
        return tapeBytes;
    }

    public int town(int n) throws IllegalArgumentException {
        if (n < 0 || n > tapeBytes) {
            throw new IllegalArgumentException("not so many bytes on the tape");
        }
        tapeBytes = 0;
        if (!reader.readsAll(tape, n, spare)) {
            faultPlace = reader.place;
            return reader.fault - 10;
        }
        // the two towns change places, so that a later faulty text leaves this one as it is
        Town old = current;
        current = spare;
        spare = old;
        faultPlace = NONE;
        changes.time = 0;
        story.told = 0;
        images.kept = 0;
        return current.corners;
    }

    public int fault() {
        return faultPlace;
    }

    public int told(int what) throws IllegalArgumentException {
        switch (what) {
            case 0:
                return current.corners;
            case 1:
                return current.streets;
            case 2:
                return Integer.bitCount(current.boxes);
            case 3:
                return current.riders;
            case 4:
                return current.lefts;
            case 5:
                return changes.time;
            default:
                throw new IllegalArgumentException("no such what");
        }
    }

    public int street(int street, int what) throws NoSuchElementException, IllegalArgumentException {
        needStreet(street);
        needWhat(what, 3);
        int arc = 2 * street;
        switch (what) {
            case 0:
                return current.begin[arc];
            case 1:
                return current.end[arc];
            case 2:
                return current.length[arc];
            default:
                return current.isArc(arc + 1) ? 0 : 1;
        }
    }

    public int turn(int arc, int other) throws NoSuchElementException {
        needArc(arc);
        needArc(other);
        return current.kindOfTurn(arc, other);
    }

    public boolean may(int arc, int other, int time) throws NoSuchElementException, IllegalArgumentException {
        needArc(arc);
        needArc(other);
        lookAt(time);
        return has(rules.next[arc], other);
    }

    public int sign(int street, int other, boolean is) throws NoSuchElementException, IllegalArgumentException {
        return changeOf(A_SIGN, street, other, is);
    }

    public int allow(int street, int other, boolean is) throws NoSuchElementException, IllegalArgumentException {
        return changeOf(A_LEAVE, street, other, is);
    }

    public int back(int time) throws IllegalArgumentException {
        needTime(time);
        return changes.note(A_RETURN, time, 0);
    }

    public boolean stands(int street, int other, int time, int what)
            throws NoSuchElementException, IllegalArgumentException {
        needStreet(street);
        needStreet(other);
        needWhat(what, 1);
        lookAt(time);
        return rules.stand(what, street, other);
    }

    public int ride(int from, int to, int time) throws IndexOutOfBoundsException, IllegalArgumentException {
        needCorner(from);
        needCorner(to);
        lookAt(time);
        routes.aim(current, rules.next, to);
        return routes.lengthFrom(current, from);
    }

    public int step(int from, int to, int time, int k) throws IndexOutOfBoundsException, IllegalArgumentException {
        needCorner(from);
        needCorner(to);
        lookAt(time);
        routes.aim(current, rules.next, to);
        int steps = routes.trace(current, rules.next, from);
        return k >= 0 && k < steps ? routes.path[k] : NONE;
    }

    public int reach(int corner, int time, int what) throws IndexOutOfBoundsException, IllegalArgumentException {
        needCorner(corner);
        needWhat(what, 2);
        lookAt(time);
        int reached = Reach.cornersFrom(current, rules.next, corner);
        if (what == 0) {
            return reached;
        }
        int home = Reach.cornersTo(current, rules.next, corner);
        return what == 1 ? home : Integer.bitCount(reached & ~home);
    }

    public int parts(int time, int what) throws IllegalArgumentException {
        needWhat(what, 1);
        lookAt(time);
        int many = 0;
        int greatest = 0;
        long rest = current.arcs;
        for (int i = 0; i < MOST_ARCS && rest != 0L; i++) {
            long part = Reach.partOf(current, rules.next, lowest(rest));
            rest &= ~part;
            many++;
            greatest = Math.max(greatest, Long.bitCount(part));
        }
        return what == 0 ? many : greatest;
    }

    public boolean together(int arc, int other, int time) throws NoSuchElementException, IllegalArgumentException {
        needArc(arc);
        needArc(other);
        lookAt(time);
        return has(Reach.arcsFrom(rules.next, 1L << arc), other)
                && has(Reach.arcsFrom(rules.next, 1L << other), arc);
    }

    public int open(int time, int what) throws IllegalArgumentException {
        needWhat(what, 1);
        lookAt(time);
        int pairs = Reach.pairs(current, rules.next);
        if (what == 1) {
            return pairs;
        }
        return pairs == current.corners * (current.corners - 1) ? 1 : 0;
    }

    public int since(int from, int to, int time, boolean is)
            throws IndexOutOfBoundsException, IllegalArgumentException {
        needCorner(from);
        needCorner(to);
        needTime(time);
        for (int t = time; t <= changes.time; t++) {
            changes.bringTo(t, current, rules);
            int reached = Reach.cornersFrom(current, rules.next, from);
            if ((reached >> to & 1) == (is ? 1 : 0)) {
                return t;
            }
        }
        return NONE;
    }

    public int left(int k) {
        return k >= 0 && k < current.lefts ? current.leftTurns[k] : NONE;
    }

    public int candidates(int time) throws IllegalArgumentException {
        lookAt(time);
        choices.find(current, rules);
        return choices.many;
    }

    public int fewest(int time, int what) throws IllegalArgumentException {
        needWhat(what, 1);
        lookAt(time);
        choices.find(current, rules);
        Arrays.fill(choices.cost, 1);
        choices.searchLeast(current, rules);
        return what == 0 ? choices.bestSum : choices.bestBits;
    }

    public int cheapest(int time, int what) throws IllegalArgumentException {
        needWhat(what, 1);
        lookAt(time);
        choices.find(current, rules);
        choices.setPrices(current);
        choices.searchLeast(current, rules);
        return what == 0 ? choices.bestSum : choices.bestBits;
    }

    public int exchange(int time, int what) throws IllegalArgumentException {
        needWhat(what, 1);
        lookAt(time);
        choices.find(current, rules);
        choices.searchExchange(current, rules);
        return what == 0 ? choices.bestBits : choices.bestSum;
    }

    public int round(int corner, int time) throws IndexOutOfBoundsException, IllegalArgumentException {
        needCorner(corner);
        lookAt(time);
        return post.leastRound(current, rules.next, corner);
    }

    public int bound(int corner, int time) throws IndexOutOfBoundsException, IllegalArgumentException {
        needCorner(corner);
        lookAt(time);
        return post.leastBound(current, rules.next, corner, routes);
    }

    public int home(int rider) throws IllegalArgumentException {
        if (rider < 0 || rider >= current.riders) {
            throw new IllegalArgumentException("no such rider");
        }
        letRide();
        return riding.homeIn[rider];
    }

    public int traffic(int what) throws IllegalArgumentException {
        needWhat(what, 3);
        letRide();
        switch (what) {
            case 0:
                return riding.rounds;
            case 1:
                return riding.homeMany(current);
            case 2:
                return riding.waitsTogether(current);
            default:
                return riding.waitsMost(current);
        }
    }

    public int counts(int street) throws NoSuchElementException {
        needStreet(street);
        lookAt(changes.time);
        riding.plan(current, rules.next, routes);
        return riding.passes(current, street);
    }

    public int tell(int corner) throws IndexOutOfBoundsException {
        needCorner(corner);
        return story.add(corner);
    }

    public int forget() {
        int many = story.told;
        story.told = 0;
        return many;
    }

    public long breaks(int time, int what) throws IllegalArgumentException {
        needWhat(what, 1);
        lookAt(time);
        if (story.told < 2) {
            return 0L;
        }
        int few = story.weigh(current, rules.next, NONE);
        if (few == NONE) {
            return NONE;
        }
        return what == 0 ? few : story.waysOf(few);
    }

    public int cut(int time) throws IllegalArgumentException {
        lookAt(time);
        return Reach.leastClosed(current, rules.next);
    }

    public int sure(int time, int k) throws IllegalArgumentException {
        lookAt(time);
        return story.surePair(current, rules.next, k);
    }

    public int detour(int from, int to, int time) throws IndexOutOfBoundsException, IllegalArgumentException {
        needCorner(from);
        needCorner(to);
        lookAt(time);
        routes.aim(current, rules.next, to);
        int real = routes.lengthFrom(current, from);
        if (real == NONE) {
            return NONE;
        }
        // the turns of a ride are among the free ones, so there is a free ride too
        routes.aim(current, current.forward, to);
        return real - routes.lengthFrom(current, from);
    }

    public int gain(int time, int what) throws IllegalArgumentException {
        needWhat(what, 1);
        lookAt(time);
        choices.find(current, rules);
        choices.searchGain(current, rules, routes);
        return what == 0 ? choices.bestBits : choices.bestSum;
    }

    public int baker(int time, int what) throws IllegalArgumentException {
        needWhat(what, 1);
        lookAt(time);
        int street = riding.busiest(current, rules.next, routes);
        if (what == 0) {
            return street;
        }
        return street == NONE ? 0 : riding.passed[street];
    }

    public int image() {
        return images.keep(changes, story);
    }

    public int restore() {
        return images.bringBack(changes, story);
    }

    public int count(int what) {
        switch (what) {
            case 0:
                return story.told;
            case 1:
                return images.kept;
            case 2:
                return tapeBytes;
            default:
                return NONE;
        }
    }

    private void putNumber(int number) {
        for (int shift = 24; shift >= 0; shift -= 8) {
            if (tapeBytes < tape.length) {
                tape[tapeBytes] = number >> shift & 255;
                tapeBytes++;
            }
        }
    }

    private void needWhat(int what, int last) {
        if (what < 0 || what > last) {
            throw new IllegalArgumentException("no such what");
        }
    }

    private void needTime(int time) {
        if (time < 0 || time > changes.time) {
            throw new IllegalArgumentException("no such time");
        }
    }

    private void needCorner(int corner) {
        if (corner < 0 || corner >= current.corners) {
            throw new IndexOutOfBoundsException("no such corner");
        }
    }

    private void needStreet(int street) {
        if (street < 0 || street >= current.streets) {
            throw new NoSuchElementException("no such street");
        }
    }

    private void needArc(int arc) {
        if (!current.isArc(arc)) {
            throw new NoSuchElementException("no such arc");
        }
    }

    private void lookAt(int time) {
        needTime(time);
        changes.bringTo(time, current, rules);
    }

    private void letRide() {
        lookAt(changes.time);
        riding.plan(current, rules.next, routes);
        riding.run(current);
    }

    private int changeOf(int kind, int street, int other, boolean is) {
        needStreet(street);
        needStreet(other);
        if (street == other || !current.meet(street, other)) {
            throw new IllegalArgumentException("no two streets with a corner in common");
        }
        if (changes.time >= MOST_CHANGES) {
            return -1;
        }
        lookAt(changes.time);
        if (rules.stand(kind, street, other) == is) {
            return -2;
        }
        return changes.note(kind, street, other);
    }

    private static boolean has(long mask, int bit) {
        return (mask >>> bit & 1L) != 0L;
    }

    private static int lowest(long mask) {
        return Long.bitCount((mask & -mask) - 1L);
    }

    private static long bothArcs(int street) {
        return 3L << 2 * street;
    }

    /** A town as it was told, and what follows from it whatever the changes are. */
    private static final class Town {
        int corners = 0;
        int streets = 0;
        int riders = 0;
        int boxes = 0;
        int lefts = 0;
        long arcs = 0L;
        final int[] x = new int[MOST_CORNERS];
        final int[] y = new int[MOST_CORNERS];
        final int[] begin = new int[MOST_ARCS];
        final int[] end = new int[MOST_ARCS];
        final int[] length = new int[MOST_ARCS];
        final long[] signs = new long[MOST_STREETS];
        final long[] allowed = new long[MOST_STREETS];
        /** From, to and first round of each rider. */
        final int[] trips = new int[3 * MOST_RIDERS];
        final long[] outOf = new long[MOST_CORNERS];
        final long[] into = new long[MOST_CORNERS];
        /** Of each arc, those behind a left turn, and those behind any turn but back. */
        final long[] leftward = new long[MOST_ARCS];
        final long[] forward = new long[MOST_ARCS];
        final int[] leftTurns = new int[MOST_LEFTS];

        void clear() {
            corners = 0;
            streets = 0;
            riders = 0;
            boxes = 0;
            lefts = 0;
            arcs = 0L;
            Arrays.fill(signs, 0L);
            Arrays.fill(allowed, 0L);
        }

        boolean isFull(int word) {
            switch (word) {
                case CORNER_WORD:
                    return corners >= MOST_CORNERS;
                case STREET_WORD:
                    return streets >= MOST_STREETS;
                case BOX_WORD:
                    return Integer.bitCount(boxes) >= MOST_BOXES;
                case RIDER_WORD:
                    return riders >= MOST_RIDERS;
                default:
                    return false;
            }
        }

        boolean isTaken(int atX, int atY) {
            for (int c = 0; c < corners; c++) {
                if (x[c] == atX && y[c] == atY) {
                    return true;
                }
            }
            return false;
        }

        void addCorner(int atX, int atY) {
            if (corners < MOST_CORNERS) {
                x[corners] = atX;
                y[corners] = atY;
                corners++;
            }
        }

        void addStreet(int a, int b, int n) {
            if (streets < MOST_STREETS) {
                int arc = 2 * streets;
                begin[arc] = a;
                end[arc] = b;
                length[arc] = n;
                begin[arc + 1] = b;
                end[arc + 1] = a;
                length[arc + 1] = n;
                arcs |= bothArcs(streets);
                streets++;
            }
        }

        void addRider(int from, int to, int start) {
            if (riders < MOST_RIDERS) {
                trips[3 * riders] = from;
                trips[3 * riders + 1] = to;
                trips[3 * riders + 2] = start;
                riders++;
            }
        }

        boolean isArc(int arc) {
            return arc >= 0 && arc < 2 * streets && has(arcs, arc);
        }

        boolean meet(int street, int other) {
            int s = 2 * street;
            int t = 2 * other;
            return begin[s] == begin[t] || begin[s] == end[t] || end[s] == begin[t] || end[s] == end[t];
        }

        int kindOfTurn(int arc, int other) {
            if (end[arc] != begin[other]) {
                return NONE;
            }
            if (arc / 2 == other / 2) {
                return BACKWARD;
            }
            int wayX = x[end[arc]] - x[begin[arc]];
            int wayY = y[end[arc]] - y[begin[arc]];
            int otherX = x[end[other]] - x[begin[other]];
            int otherY = y[end[other]] - y[begin[other]];
            int across = wayX * otherY - wayY * otherX;
            if (across != 0) {
                return across > 0 ? LEFTWARD : RIGHTWARD;
            }
            return wayX * otherX + wayY * otherY > 0 ? STRAIGHT_ON : BACKWARD;
        }

        /** What the text tells only in the end, as a street may become one way late. */
        void settle() {
            Arrays.fill(outOf, 0L);
            Arrays.fill(into, 0L);
            for (int arc = 0; arc < 2 * streets; arc++) {
                if (has(arcs, arc)) {
                    outOf[begin[arc]] |= 1L << arc;
                    into[end[arc]] |= 1L << arc;
                }
            }
            for (int arc = 0; arc < 2 * streets; arc++) {
                settleTurnsOf(arc);
            }
            listLeftTurns();
        }

        private void settleTurnsOf(int arc) {
            leftward[arc] = 0L;
            forward[arc] = 0L;
            for (int other = 0; other < 2 * streets && has(arcs, arc); other++) {
                int kind = has(arcs, other) ? kindOfTurn(arc, other) : NONE;
                if (kind == LEFTWARD) {
                    leftward[arc] |= 1L << other;
                }
                if (kind > BACKWARD) {
                    forward[arc] |= 1L << other;
                }
            }
        }

        private void listLeftTurns() {
            for (int s = 0; s < streets; s++) {
                long lefty = leftward[2 * s] | leftward[2 * s + 1];
                for (int t = 0; t < streets; t++) {
                    if ((lefty & bothArcs(t)) != 0L && lefts < MOST_LEFTS) {
                        leftTurns[lefts] = 100 * s + t;
                        lefts++;
                    }
                }
            }
        }
    }

    /** Reads a text from the left, and stops at its first fault. */
    private static final class Reader {
        int fault = 0;
        int place = NONE;
        private int[] text = new int[0];
        private int size = 0;
        private int at = 0;
        private int numberPlace = 0;

        boolean readsAll(int[] bytes, int n, Town into) {
            text = bytes;
            size = Math.min(n, bytes.length);
            at = 0;
            into.clear();
            for (int clauses = 0; clauses <= MOST_CLAUSES; clauses++) {
                skipBlanks();
                if (at >= size) {
                    into.settle();
                    return true;
                }
                if (!readsClause(into, clauses)) {
                    return false;
                }
            }
            return false;
        }

        private boolean readsClause(Town into, int clauses) {
            int from = at;
            int word = readWord();
            if (word == NONE) {
                return wrong(1, from);
            }
            if (clauses >= MOST_CLAUSES || into.isFull(word)) {
                return wrong(3, from);
            }
            return readsNumbers(into, word) && readsMark();
        }

        private boolean readsNumbers(Town into, int word) {
            switch (word) {
                case CORNER_WORD:
                    return readsCorner(into);
                case STREET_WORD:
                    return readsStreet(into);
                case ONE_WORD:
                    return readsOneWay(into);
                case BOX_WORD:
                    return readsBox(into);
                case RIDER_WORD:
                    return readsRider(into);
                default:
                    return readsPair(into, word == NO_WORD ? into.signs : into.allowed);
            }
        }

        private boolean readsCorner(Town into) {
            int atX = readNumber(0, HIGHEST_NUMBER);
            int atY = atX == NONE ? NONE : readNumber(0, HIGHEST_NUMBER);
            if (atY == NONE) {
                return false;
            }
            if (into.isTaken(atX, atY)) {
                return wrong(2, numberPlace);
            }
            into.addCorner(atX, atY);
            return true;
        }

        private boolean readsStreet(Town into) {
            int a = readNumber(0, into.corners - 1);
            int b = a == NONE ? NONE : readNumber(0, into.corners - 1);
            if (b == NONE) {
                return false;
            }
            if (a == b) {
                return wrong(2, numberPlace);
            }
            int n = readNumber(1, HIGHEST_NUMBER);
            if (n == NONE) {
                return false;
            }
            into.addStreet(a, b, n);
            return true;
        }

        private boolean readsOneWay(Town into) {
            int s = readNumber(0, into.streets - 1);
            if (s == NONE) {
                return false;
            }
            into.arcs &= ~(1L << 2 * s + 1);
            return true;
        }

        private boolean readsPair(Town into, long[] row) {
            int s = readNumber(0, into.streets - 1);
            int t = s == NONE ? NONE : readNumber(0, into.streets - 1);
            if (t == NONE) {
                return false;
            }
            if (s == t || !into.meet(s, t)) {
                return wrong(2, numberPlace);
            }
            row[s] |= bothArcs(t);
            return true;
        }

        private boolean readsBox(Town into) {
            int c = readNumber(0, into.corners - 1);
            if (c == NONE) {
                return false;
            }
            into.boxes |= 1 << c;
            return true;
        }

        private boolean readsRider(Town into) {
            int from = readNumber(0, into.corners - 1);
            int to = from == NONE ? NONE : readNumber(0, into.corners - 1);
            if (to == NONE) {
                return false;
            }
            if (from == to) {
                return wrong(2, numberPlace);
            }
            int start = readNumber(0, HIGHEST_NUMBER);
            if (start == NONE) {
                return false;
            }
            into.addRider(from, to, start);
            return true;
        }

        private boolean readsMark() {
            skipBlanks();
            if (at >= size || text[at] != ';') {
                return wrong(1, at);
            }
            at++;
            return true;
        }

        private int readNumber(int least, int greatest) {
            skipBlanks();
            numberPlace = at;
            int value = 0;
            for (int i = at; i < size && isDigit(text[i]); i++) {
                // a number of many digits stays too great instead of wrapping round
                value = Math.min(10 * value + text[i] - '0', 1000);
                at = i + 1;
            }
            if (at == numberPlace) {
                wrong(1, at);
                return NONE;
            }
            if (value < least || value > greatest) {
                wrong(2, numberPlace);
                return NONE;
            }
            return value;
        }

        private int readWord() {
            int from = at;
            for (int i = at; i < size && isLetter(text[i]); i++) {
                at = i + 1;
            }
            for (int word = CORNER_WORD; word <= RIDER_WORD; word++) {
                if (spells(nameOf(word), from)) {
                    return word;
                }
            }
            return NONE;
        }

        private static String nameOf(int word) {
            switch (word) {
                case CORNER_WORD:
                    return "corner";
                case STREET_WORD:
                    return "street";
                case ONE_WORD:
                    return "one";
                case NO_WORD:
                    return "no";
                case MAY_WORD:
                    return "may";
                case BOX_WORD:
                    return "box";
                default:
                    return "rider";
            }
        }

        private boolean spells(String name, int from) {
            if (at - from != name.length()) {
                return false;
            }
            for (int i = 0; i < name.length() && from + i < size; i++) {
                if (text[from + i] != name.charAt(i)) {
                    return false;
                }
            }
            return true;
        }

        private void skipBlanks() {
            for (int i = at; i < size && text[i] == ' '; i++) {
                at = i + 1;
            }
        }

        private boolean wrong(int kind, int where) {
            fault = kind;
            place = where;
            return false;
        }

        private static boolean isDigit(int sign) {
            return sign >= '0' && sign <= '9';
        }

        private static boolean isLetter(int sign) {
            return sign >= 'a' && sign <= 'z';
        }
    }

    /** The signs and what is allowed at one time, and the turns that may be ridden then. */
    private static final class Rules {
        final long[] signs = new long[MOST_STREETS];
        final long[] allowed = new long[MOST_STREETS];
        final long[] next = new long[MOST_ARCS];

        void startFrom(Town town) {
            System.arraycopy(town.signs, 0, signs, 0, MOST_STREETS);
            System.arraycopy(town.allowed, 0, allowed, 0, MOST_STREETS);
        }

        void flip(int kind, int street, int other) {
            if (kind == A_SIGN) {
                signs[street] ^= bothArcs(other);
            } else {
                allowed[street] ^= bothArcs(other);
            }
        }

        boolean stand(int kind, int street, int other) {
            return has(kind == A_SIGN ? signs[street] : allowed[street], 2 * other);
        }

        void settle(Town town) {
            for (int arc = 0; arc < 2 * town.streets; arc++) {
                long barred = signs[arc / 2] | town.leftward[arc] & ~allowed[arc / 2];
                next[arc] = town.forward[arc] & ~barred;
            }
        }
    }

    /** All changes since the town was told: each time's town is made anew from them when it is asked for. */
    private static final class Changes {
        int time = 0;
        private final int[] kinds = new int[MOST_CHANGES];
        private final int[] first = new int[MOST_CHANGES];
        private final int[] second = new int[MOST_CHANGES];

        int note(int kind, int one, int other) {
            if (time >= MOST_CHANGES) {
                return -1;
            }
            kinds[time] = kind;
            first[time] = one;
            second[time] = other;
            time++;
            return time;
        }

        /** Each change but a return turns one thing over, so they can be gone through from the latest on. */
        void bringTo(int when, Town town, Rules rules) {
            rules.startFrom(town);
            int t = Math.min(when, time);
            for (int i = 0; i < MOST_CHANGES && t > 0; i++) {
                t--;
                if (kinds[t] == A_RETURN) {
                    t = first[t];
                } else {
                    rules.flip(kinds[t], first[t], second[t]);
                }
            }
            rules.settle(town);
        }
    }

    /** Who reaches what by given turns. */
    private static final class Reach {
        private Reach() {
        }

        static long arcsFrom(long[] next, long first) {
            long seen = first;
            long ahead = first;
            for (int i = 0; i < MOST_ARCS && ahead != 0L; i++) {
                int arc = lowest(ahead);
                ahead &= ahead - 1L;
                long fresh = arc < next.length ? next[arc] & ~seen : 0L;
                seen |= fresh;
                ahead |= fresh;
            }
            return seen;
        }

        static int cornersFrom(Town town, long[] next, int corner) {
            long seen = arcsFrom(next, town.outOf[corner]);
            int reached = 1 << corner;
            for (int c = 0; c < town.corners; c++) {
                if ((seen & town.into[c]) != 0L) {
                    reached |= 1 << c;
                }
            }
            return reached;
        }

        static int cornersTo(Town town, long[] next, int corner) {
            int home = 0;
            for (int c = 0; c < town.corners; c++) {
                if ((cornersFrom(town, next, c) >> corner & 1) != 0) {
                    home |= 1 << c;
                }
            }
            return home;
        }

        static long partOf(Town town, long[] next, int arc) {
            long part = 0L;
            long seen = arcsFrom(next, 1L << arc);
            for (int other = 0; other < 2 * town.streets; other++) {
                if (has(seen, other) && has(arcsFrom(next, 1L << other), arc)) {
                    part |= 1L << other;
                }
            }
            return part;
        }

        static int pairs(Town town, long[] next) {
            int many = 0;
            for (int c = 0; c < town.corners; c++) {
                many += Integer.bitCount(cornersFrom(town, next, c)) - 1;
            }
            return many;
        }

        /** A set that nobody leaves holds all that follows from any one of it: the least grows from one corner. */
        static int leastClosed(Town town, long[] next) {
            int all = (1 << town.corners) - 1;
            int best = 0;
            for (int c = 0; c < town.corners; c++) {
                int set = closureOf(town, next, c);
                if (set != all && (best == 0 || isLess(set, best))) {
                    best = set;
                }
            }
            return best;
        }

        private static boolean isLess(int set, int other) {
            int size = Integer.bitCount(set);
            int otherSize = Integer.bitCount(other);
            return size < otherSize || size == otherSize && set < other;
        }

        private static int closureOf(Town town, long[] next, int corner) {
            int set = 1 << corner;
            int ahead = set;
            for (int i = 0; i < MOST_CORNERS && ahead != 0; i++) {
                int fresh = cornersFrom(town, next, lowest(ahead)) & ~set;
                ahead &= ahead - 1;
                set |= fresh;
                ahead |= fresh;
            }
            return set;
        }
    }

    /** Shortest rides to one corner. */
    private static final class Routes {
        final int[] path = new int[MOST_ARCS];
        /** Of each arc: how long it is from its beginning to the goal, with the arc ridden first. */
        private final int[] ahead = new int[MOST_ARCS];
        private int goal = 0;

        void aim(Town town, long[] next, int corner) {
            goal = corner;
            long open = town.arcs;
            for (int arc = 0; arc < MOST_ARCS; arc++) {
                ahead[arc] = has(town.into[corner], arc) ? town.length[arc] : FAR;
            }
            for (int i = 0; i < MOST_ARCS; i++) {
                int arc = nearest(town, open);
                if (arc == NONE) {
                    return;
                }
                open &= ~(1L << arc);
                spread(town, next, arc, open);
            }
        }

        private int nearest(Town town, long open) {
            int best = NONE;
            for (int arc = 0; arc < 2 * town.streets; arc++) {
                if (has(open, arc) && ahead[arc] < FAR && (best == NONE || ahead[arc] < ahead[best])) {
                    best = arc;
                }
            }
            return best;
        }

        private void spread(Town town, long[] next, int arc, long open) {
            long before = town.into[town.begin[arc]] & open;
            for (int i = 0; i < MOST_ARCS && before != 0L; i++) {
                int earlier = lowest(before);
                before &= before - 1L;
                if (has(next[earlier], arc)) {
                    ahead[earlier] = Math.min(ahead[earlier], town.length[earlier] + ahead[arc]);
                }
            }
        }

        int lengthFrom(Town town, int corner) {
            if (corner == goal) {
                return 0;
            }
            int first = firstOf(town.outOf[corner], leastOf(town.outOf[corner]));
            return first == NONE ? NONE : ahead[first];
        }

        /** The first of the shortest rides, into path: how many arcs it has. */
        int trace(Town town, long[] next, int corner) {
            if (corner == goal) {
                return 0;
            }
            int steps = 0;
            long ways = town.outOf[corner];
            int rest = leastOf(ways);
            for (int i = 0; i < MOST_ARCS; i++) {
                int arc = firstOf(ways, rest);
                if (arc == NONE) {
                    return 0;
                }
                path[steps] = arc;
                steps++;
                if (town.end[arc] == goal) {
                    return steps;
                }
                rest -= town.length[arc];
                ways = next[arc];
            }
            return 0;
        }

        private int leastOf(long arcs) {
            int least = FAR;
            for (int arc = 0; arc < MOST_ARCS; arc++) {
                if (has(arcs, arc)) {
                    least = Math.min(least, ahead[arc]);
                }
            }
            return least;
        }

        private int firstOf(long arcs, int wanted) {
            for (int arc = 0; arc < MOST_ARCS && wanted < FAR; arc++) {
                if (has(arcs, arc) && ahead[arc] == wanted) {
                    return arc;
                }
            }
            return NONE;
        }
    }

    /** Left turns that might be allowed, and what is best among them. */
    private static final class Choices {
        int many = 0;
        int bestSum = 0;
        int bestBits = 0;
        final int[] cost = new int[MOST_CANDIDATES];
        private final int[] numbers = new int[MOST_CANDIDATES];
        private final long[] next = new long[MOST_ARCS];
        /** The corner that did not reach all the last time: most often it does not the next time, either. */
        private int suspect = 0;

        void find(Town town, Rules rules) {
            many = 0;
            for (int number = 0; number < town.lefts && many < MOST_CANDIDATES; number++) {
                if (!isRidden(town, rules, number) && isUnsigned(town, rules, number)) {
                    numbers[many] = number;
                    many++;
                }
            }
        }

        void setPrices(Town town) {
            for (int i = 0; i < many; i++) {
                int turn = town.leftTurns[numbers[i]];
                int lengths = town.length[turn / 100 * 2] + town.length[turn % 100 * 2];
                cost[i] = 1 + lengths / 10;
            }
        }

        /** The sets come by their bits; what is under one of them is left out where it can't be better. */
        void searchLeast(Town town, Rules rules) {
            bestSum = NONE;
            bestBits = NONE;
            int end = 1 << many;
            if (!opens(town, rules, end - 1)) {
                return;
            }
            int bits = 0;
            for (int i = 0; i < end && bits < end; i++) {
                int free = bits == 0 ? end : bits & -bits;
                int sum = sumOf(bits);
                boolean hopeless = bestSum != NONE && sum >= bestSum;
                if (!hopeless && opens(town, rules, bits)) {
                    bestSum = sum;
                    bestBits = bits;
                    hopeless = true;
                }
                if (!hopeless && free > 1 && bits != 0) {
                    hopeless = !opens(town, rules, bits | free - 1);
                }
                bits += hopeless ? free : 1;
            }
        }

        void searchExchange(Town town, Rules rules) {
            bestBits = NONE;
            bestSum = Reach.pairs(town, rules.next);
            for (int number = 0; number < town.lefts; number++) {
                if (isRidden(town, rules, number) && isUnsigned(town, rules, number)) {
                    exchangeFor(town, rules, number);
                }
            }
        }

        private void exchangeFor(Town town, Rules rules, int number) {
            put(town, rules, (1 << many) - 1);
            remove(town, number);
            if (Reach.pairs(town, next) <= bestSum) {
                // not even all of them together help
                return;
            }
            for (int i = 0; i < many; i++) {
                put(town, rules, 1 << i);
                remove(town, number);
                int pairs = Reach.pairs(town, next);
                if (pairs > bestSum) {
                    bestSum = pairs;
                    bestBits = 1000 * number + numbers[i];
                }
            }
        }

        void searchGain(Town town, Rules rules, Routes routes) {
            bestBits = NONE;
            bestSum = 0;
            int bestRides = NONE;
            for (int i = -1; i < many; i++) {
                put(town, rules, i < 0 ? 0 : 1 << i);
                int rides = 0;
                int sum = 0;
                for (int r = 0; r < town.riders; r++) {
                    routes.aim(town, next, town.trips[3 * r + 1]);
                    int length = routes.lengthFrom(town, town.trips[3 * r]);
                    rides += length == NONE ? 0 : 1;
                    sum += length == NONE ? 0 : length;
                }
                if (rides > bestRides || rides == bestRides && sum < bestSum) {
                    bestRides = rides;
                    bestSum = sum;
                    bestBits = i < 0 ? NONE : numbers[i];
                }
            }
        }

        private int sumOf(int bits) {
            int sum = 0;
            for (int i = 0; i < many; i++) {
                sum += (bits >> i & 1) * cost[i];
            }
            return sum;
        }

        private boolean opens(Town town, Rules rules, int bits) {
            put(town, rules, bits);
            int all = (1 << town.corners) - 1;
            if (suspect < town.corners && Reach.cornersFrom(town, next, suspect) != all) {
                return false;
            }
            for (int c = 0; c < town.corners; c++) {
                if (Reach.cornersFrom(town, next, c) != all) {
                    suspect = c;
                    return false;
                }
            }
            return true;
        }

        private void put(Town town, Rules rules, int bits) {
            System.arraycopy(rules.next, 0, next, 0, MOST_ARCS);
            for (int i = 0; i < many; i++) {
                if ((bits >> i & 1) != 0) {
                    int from = town.leftTurns[numbers[i]] / 100 * 2;
                    long into = bothArcs(town.leftTurns[numbers[i]] % 100);
                    next[from] |= town.leftward[from] & into;
                    next[from + 1] |= town.leftward[from + 1] & into;
                }
            }
        }

        private void remove(Town town, int number) {
            int from = town.leftTurns[number] / 100 * 2;
            long into = bothArcs(town.leftTurns[number] % 100);
            next[from] &= ~(town.leftward[from] & into);
            next[from + 1] &= ~(town.leftward[from + 1] & into);
        }

        private static boolean isRidden(Town town, Rules rules, int number) {
            int turn = town.leftTurns[number];
            return rules.stand(A_LEAVE, turn / 100, turn % 100);
        }

        private static boolean isUnsigned(Town town, Rules rules, int number) {
            int turn = town.leftTurns[number];
            return !rules.stand(A_SIGN, turn / 100, turn % 100);
        }
    }

    /** The round by all letter boxes, and its bound. */
    private static final class Post {
        /** From the end of an arc to the end of another one; made when first asked for. */
        private int[] between = new int[0];
        private int[] best = new int[0];
        private final int[] stops = new int[MOST_BOXES + 1];
        private int stopsMany = 0;
        /** The arcs that end at a stop, and the number of that stop. */
        private final int[] ending = new int[MOST_ARCS];
        private final int[] stopOf = new int[MOST_ARCS];
        private int endingMany = 0;

        int leastRound(Town town, long[] next, int corner) {
            listStops(town, corner, false);
            if (stopsMany == 0) {
                return 0;
            }
            measure(town, next);
            listEnding(town);
            int sets = 1 << stopsMany;
            clearBest(sets * endingMany);
            for (int i = 0; i < endingMany; i++) {
                best[(1 << stopOf[i]) * endingMany + i] = fromCorner(town, corner, ending[i]);
            }
            for (int set = 1; set < sets; set++) {
                goOnFrom(set);
            }
            int least = FAR;
            for (int i = 0; i < endingMany; i++) {
                least = Math.min(least, best[(sets - 1) * endingMany + i] + toCorner(town, corner, ending[i]));
            }
            return least >= FAR ? NONE : least;
        }

        private void goOnFrom(int set) {
            for (int i = 0; i < endingMany; i++) {
                int so = best[set * endingMany + i];
                for (int j = 0; j < endingMany && so < FAR; j++) {
                    if ((set >> stopOf[j] & 1) == 0) {
                        int then = (set | 1 << stopOf[j]) * endingMany + j;
                        best[then] = Math.min(best[then], so + between[ending[i] * MOST_ARCS + ending[j]]);
                    }
                }
            }
        }

        private int fromCorner(Town town, int corner, int arc) {
            int least = FAR;
            for (int first = 0; first < 2 * town.streets; first++) {
                if (has(town.outOf[corner], first)) {
                    int rest = first == arc ? 0 : between[first * MOST_ARCS + arc];
                    least = Math.min(least, town.length[first] + rest);
                }
            }
            return least;
        }

        private int toCorner(Town town, int corner, int arc) {
            int least = FAR;
            for (int last = 0; last < 2 * town.streets; last++) {
                if (has(town.into[corner], last)) {
                    least = Math.min(least, between[arc * MOST_ARCS + last]);
                }
            }
            return least;
        }

        /** Each stop takes, by its number, one of those behind that are not taken yet. */
        int leastBound(Town town, long[] next, int corner, Routes routes) {
            listStops(town, corner, true);
            if (stopsMany < 2) {
                return 0;
            }
            int sets = 1 << stopsMany;
            makeBetween();
            for (int to = 0; to < stopsMany; to++) {
                routes.aim(town, next, stops[to]);
                for (int from = 0; from < stopsMany; from++) {
                    int length = routes.lengthFrom(town, stops[from]);
                    between[from * MOST_ARCS + to] = from == to || length == NONE ? FAR : length;
                }
            }
            clearBest(sets);
            best[0] = 0;
            for (int taken = 0; taken < sets - 1; taken++) {
                takeOneMore(taken);
            }
            return best[sets - 1] >= FAR ? NONE : best[sets - 1];
        }

        private void takeOneMore(int taken) {
            int from = Integer.bitCount(taken);
            for (int to = 0; to < stopsMany && best[taken] < FAR; to++) {
                if ((taken >> to & 1) == 0) {
                    int then = taken | 1 << to;
                    best[then] = Math.min(best[then], best[taken] + between[from * MOST_ARCS + to]);
                }
            }
        }

        private void listStops(Town town, int corner, boolean withCorner) {
            stopsMany = 0;
            for (int c = 0; c < town.corners && stopsMany < stops.length; c++) {
                boolean counts = c == corner ? withCorner : (town.boxes >> c & 1) != 0;
                if (counts) {
                    stops[stopsMany] = c;
                    stopsMany++;
                }
            }
        }

        private void listEnding(Town town) {
            endingMany = 0;
            for (int stop = 0; stop < stopsMany; stop++) {
                for (int arc = 0; arc < 2 * town.streets; arc++) {
                    if (has(town.into[stops[stop]], arc) && endingMany < MOST_ARCS) {
                        ending[endingMany] = arc;
                        stopOf[endingMany] = stop;
                        endingMany++;
                    }
                }
            }
        }

        private void measure(Town town, long[] next) {
            makeBetween();
            int arcs = 2 * town.streets;
            for (int from = 0; from < arcs; from++) {
                for (int to = 0; to < arcs; to++) {
                    between[from * MOST_ARCS + to] = has(next[from], to) ? town.length[to] : FAR;
                }
            }
            for (int by = 0; by < arcs; by++) {
                for (int from = 0; from < arcs; from++) {
                    shortenBy(from, by, arcs);
                }
            }
        }

        private void shortenBy(int from, int by, int arcs) {
            int first = between[from * MOST_ARCS + by];
            for (int to = 0; to < arcs && first < FAR; to++) {
                int both = first + between[by * MOST_ARCS + to];
                if (both < between[from * MOST_ARCS + to]) {
                    between[from * MOST_ARCS + to] = both;
                }
            }
        }

        private void makeBetween() {
            if (between.length == 0) {
                between = new int[MOST_ARCS * MOST_ARCS];
            }
        }

        private void clearBest(int many) {
            makeRoom(many);
            for (int i = 0; i < many && i < best.length; i++) {
                best[i] = FAR;
            }
        }

        /** Doubles, so that all rows ever made are together no more than twice the last one. */
        private void makeRoom(int wanted) {
            int size = Math.max(best.length, 1 << MOST_BOXES + 1);
            for (int i = 0; i < 16 && size < wanted; i++) {
                size *= 2;
            }
            if (size > best.length) {
                best = new int[size];
            }
        }
    }

    /** The riders' ways, and how they get on by rounds. */
    private static final class Traffic {
        int rounds = 0;
        final int[] homeIn = new int[MOST_RIDERS];
        final int[] passed = new int[MOST_STREETS];
        private final int[] ways = new int[MOST_RIDERS * MOST_ARCS];
        private final int[] steps = new int[MOST_RIDERS];
        /** Which of its arcs a rider is on; NONE: it has not begun. */
        private final int[] onStep = new int[MOST_RIDERS];
        private final int[] toGo = new int[MOST_RIDERS];
        private final int[] came = new int[MOST_RIDERS];
        private final int[] waits = new int[MOST_RIDERS];
        private final int[] firstAt = new int[MOST_CORNERS];

        void plan(Town town, long[] next, Routes routes) {
            for (int r = 0; r < town.riders; r++) {
                routes.aim(town, next, town.trips[3 * r + 1]);
                steps[r] = routes.trace(town, next, town.trips[3 * r]);
                System.arraycopy(routes.path, 0, ways, r * MOST_ARCS, steps[r]);
            }
        }

        int passes(Town town, int street) {
            int many = 0;
            for (int r = 0; r < town.riders; r++) {
                boolean passing = false;
                for (int k = 0; k < steps[r]; k++) {
                    passing = passing || ways[r * MOST_ARCS + k] / 2 == street;
                }
                many += passing ? 1 : 0;
            }
            return many;
        }

        void run(Town town) {
            int away = 0;
            for (int r = 0; r < town.riders; r++) {
                homeIn[r] = NONE;
                onStep[r] = NONE;
                toGo[r] = 0;
                came[r] = 0;
                waits[r] = 0;
                away += steps[r] == 0 ? 1 : 0;
            }
            rounds = 0;
            for (int now = 0; now < MOST_ROUNDS && homeMany(town) + away < town.riders; now++) {
                move(town, now);
                letFirstGo(town, now);
                rounds = now + 1;
            }
        }

        private void move(Town town, int now) {
            for (int r = 0; r < town.riders; r++) {
                if (steps[r] > 0 && town.trips[3 * r + 2] == now) {
                    onStep[r] = 0;
                    toGo[r] = town.length[ways[r * MOST_ARCS]];
                } else if (isOnTheWay(r) && toGo[r] > 0) {
                    toGo[r]--;
                    came[r] = now;
                }
            }
        }

        private void letFirstGo(Town town, int now) {
            Arrays.fill(firstAt, NONE);
            for (int r = 0; r < town.riders; r++) {
                if (isOnTheWay(r) && toGo[r] == 0) {
                    int corner = cornerAhead(town, r);
                    int first = firstAt[corner];
                    firstAt[corner] = first == NONE || came[r] < came[first] ? r : first;
                }
            }
            for (int r = 0; r < town.riders; r++) {
                if (isOnTheWay(r) && toGo[r] == 0) {
                    if (firstAt[cornerAhead(town, r)] == r) {
                        goOn(town, r, now);
                    } else {
                        waits[r]++;
                    }
                }
            }
        }

        private void goOn(Town town, int r, int now) {
            onStep[r]++;
            if (onStep[r] < steps[r]) {
                toGo[r] = town.length[ways[r * MOST_ARCS + onStep[r]]];
            } else {
                homeIn[r] = now;
            }
        }

        private boolean isOnTheWay(int r) {
            return onStep[r] != NONE && onStep[r] < steps[r];
        }

        private int cornerAhead(Town town, int r) {
            return town.end[ways[r * MOST_ARCS + onStep[r]]];
        }

        int homeMany(Town town) {
            int many = 0;
            for (int r = 0; r < town.riders; r++) {
                many += homeIn[r] == NONE ? 0 : 1;
            }
            return many;
        }

        int waitsTogether(Town town) {
            int sum = 0;
            for (int r = 0; r < town.riders; r++) {
                sum += waits[r];
            }
            return sum;
        }

        int waitsMost(Town town) {
            int most = NONE;
            for (int r = 0; r < town.riders; r++) {
                if (waits[r] > 0 && (most == NONE || waits[r] > waits[most])) {
                    most = r;
                }
            }
            return most;
        }

        /** The street that most shortest rides pass, all corners to all; passed has how many. */
        int busiest(Town town, long[] next, Routes routes) {
            Arrays.fill(passed, 0);
            for (int to = 0; to < town.corners; to++) {
                routes.aim(town, next, to);
                for (int from = 0; from < town.corners; from++) {
                    addPassed(routes, routes.trace(town, next, from));
                }
            }
            int most = NONE;
            for (int s = 0; s < town.streets; s++) {
                if (passed[s] > 0 && (most == NONE || passed[s] > passed[most])) {
                    most = s;
                }
            }
            return most;
        }

        private void addPassed(Routes routes, int many) {
            int seen = 0;
            for (int k = 0; k < many; k++) {
                seen |= 1 << routes.path[k] / 2;
            }
            for (int s = 0; s < MOST_STREETS; s++) {
                passed[s] += seen >> s & 1;
            }
        }
    }

    /** The ride that a stranger tells, corner by corner. */
    private static final class Story {
        int told = 0;
        final int[] corners = new int[MOST_TOLD];
        /**
         * Of each leg and arc: the fewest turns that break till then; and of the latest two legs in how many ways
         * (one row is enough, as no arc is of two legs on end).
         */
        private final int[] few = new int[MOST_TOLD * MOST_ARCS];
        private final long[] ways = new long[MOST_ARCS];
        private final int[] broken = new int[MOST_TOLD];
        private int brokenMany = 0;

        int add(int corner) {
            if (told >= MOST_TOLD) {
                return -1;
            }
            corners[told] = corner;
            told++;
            return told;
        }

        /** The fewest turns that break, none of the banned pair of streets among them; NONE: there is no such ride. */
        int weigh(Town town, long[] next, int ban) {
            Arrays.fill(few, FAR);
            long before = 0L;
            for (int leg = 0; leg < told - 1; leg++) {
                long arcs = town.outOf[corners[leg]] & town.into[corners[leg + 1]];
                for (int arc = 0; arc < 2 * town.streets; arc++) {
                    if (has(arcs, arc) && leg == 0) {
                        few[arc] = 0;
                        ways[arc] = 1L;
                    } else if (has(arcs, arc)) {
                        weighArc(leg, arc, before, next, ban);
                    }
                }
                before = arcs;
            }
            int least = leastOfLeg(told - 2);
            return least >= FAR ? NONE : least;
        }

        private void weighArc(int leg, int arc, long before, long[] next, int ban) {
            int least = FAR;
            long many = 0L;
            for (int earlier = 0; earlier < MOST_ARCS; earlier++) {
                if (has(before, earlier)) {
                    int so = few[(leg - 1) * MOST_ARCS + earlier] + priceOf(earlier, arc, next, ban);
                    if (so < least) {
                        least = so;
                        many = 0L;
                    }
                    many += so == least && so < FAR ? ways[earlier] : 0L;
                }
            }
            few[leg * MOST_ARCS + arc] = least;
            ways[arc] = many;
        }

        private static int priceOf(int earlier, int arc, long[] next, int ban) {
            if (has(next[earlier], arc)) {
                return 0;
            }
            return pairOf(earlier, arc) == ban ? FAR : 1;
        }

        private static int pairOf(int arc, int other) {
            return arc / 2 * 100 + other / 2;
        }

        private int leastOfLeg(int leg) {
            int least = FAR;
            for (int arc = 0; arc < MOST_ARCS && leg >= 0; arc++) {
                least = Math.min(least, few[leg * MOST_ARCS + arc]);
            }
            return least;
        }

        /** In how many ways there are so few; only behind weigh of two corners or more. */
        long waysOf(int fewest) {
            long many = 0L;
            for (int arc = 0; arc < MOST_ARCS && told >= 2; arc++) {
                many += few[(told - 2) * MOST_ARCS + arc] == fewest ? ways[arc] : 0L;
            }
            return many;
        }

        int surePair(Town town, long[] next, int k) {
            int fewest = told < 2 ? NONE : weigh(town, next, NONE);
            if (fewest <= 0 || k < 0) {
                return NONE;
            }
            listBroken(next, fewest);
            int found = 0;
            for (int i = 0; i < brokenMany; i++) {
                if (weigh(town, next, broken[i]) != fewest) {
                    if (found == k) {
                        return broken[i];
                    }
                    found++;
                }
            }
            return NONE;
        }

        /** What breaks in one of the fewest ways: what breaks in each of them is among these. */
        private void listBroken(long[] next, int fewest) {
            brokenMany = 0;
            int arc = arcWith(told - 2, fewest);
            for (int leg = told - 3; leg >= 0 && arc != NONE; leg--) {
                int earlier = arcAhead(leg, arc, next, few[(leg + 1) * MOST_ARCS + arc]);
                if (earlier != NONE && !has(next[earlier], arc)) {
                    putInOrder(pairOf(earlier, arc));
                }
                arc = earlier;
            }
        }

        private int arcWith(int leg, int wanted) {
            for (int arc = 0; arc < MOST_ARCS && leg >= 0; arc++) {
                if (few[leg * MOST_ARCS + arc] == wanted) {
                    return arc;
                }
            }
            return NONE;
        }

        private int arcAhead(int leg, int arc, long[] next, int wanted) {
            for (int earlier = 0; earlier < MOST_ARCS; earlier++) {
                int so = few[leg * MOST_ARCS + earlier];
                if (so < FAR && so + priceOf(earlier, arc, next, NONE) == wanted) {
                    return earlier;
                }
            }
            return NONE;
        }

        private void putInOrder(int pair) {
            int at = 0;
            for (int i = 0; i < brokenMany; i++) {
                if (broken[i] == pair) {
                    return;
                }
                at += broken[i] < pair ? 1 : 0;
            }
            if (brokenMany < MOST_TOLD) {
                for (int i = brokenMany; i > at; i--) {
                    broken[i] = broken[i - 1];
                }
                broken[at] = pair;
                brokenMany++;
            }
        }
    }

    /**
     * Images of the changes and the told ride. Changes only ever come behind the latest image's time,
     * and images go from the latest on, so of the changes the time is enough.
     */
    private static final class Images {
        int kept = 0;
        private final int[] times = new int[MOST_IMAGES];
        private final int[] toldMany = new int[MOST_IMAGES];
        private final int[] toldCorners = new int[MOST_IMAGES * MOST_TOLD];

        int keep(Changes changes, Story story) {
            if (kept >= MOST_IMAGES) {
                return -1;
            }
            times[kept] = changes.time;
            toldMany[kept] = story.told;
            System.arraycopy(story.corners, 0, toldCorners, kept * MOST_TOLD, MOST_TOLD);
            kept++;
            return kept;
        }

        int bringBack(Changes changes, Story story) {
            if (kept <= 0) {
                return -1;
            }
            kept--;
            changes.time = times[kept];
            story.told = toldMany[kept];
            System.arraycopy(toldCorners, kept * MOST_TOLD, story.corners, 0, MOST_TOLD);
            return kept;
        }
    }
}
