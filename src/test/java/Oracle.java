import java.nio.charset.StandardCharsets;
import java.util.ArrayDeque;
import java.util.ArrayList;
import java.util.Arrays;
import java.util.Collections;
import java.util.HashMap;
import java.util.List;
import java.util.Map;
import java.util.NoSuchElementException;
import java.util.PriorityQueue;
import java.util.TreeSet;
import java.util.regex.Matcher;
import java.util.regex.Pattern;

/** The document once more, in the slowest and plainest way, and by other means than the class where there are any. */
final class Oracle {
    private static final int NONE = -1;

    /** What can be changed of a town. */
    private record State(boolean[][] signs, boolean[][] allowed) {
        State copy() {
            boolean[][] s = new boolean[24][];
            boolean[][] a = new boolean[24][];
            for (int i = 0; i < 24; i++) {
                s[i] = signs[i].clone();
                a[i] = allowed[i].clone();
            }
            return new State(s, a);
        }
    }

    private record Image(List<State> states, List<Integer> story) {
    }

    private record Way(int length, List<Integer> arcs) implements Comparable<Way> {
        public int compareTo(Way other) {
            if (length != other.length) {
                return Integer.compare(length, other.length);
            }
            for (int i = 0; i < Math.min(arcs.size(), other.arcs.size()); i++) {
                int c = Integer.compare(arcs.get(i), other.arcs.get(i));
                if (c != 0) {
                    return c;
                }
            }
            return Integer.compare(arcs.size(), other.arcs.size());
        }
    }

    private static final class Fault extends RuntimeException {
        private static final long serialVersionUID = 1L;
        final int kind;
        final int place;

        Fault(int kind, int place) {
            this.kind = kind;
            this.place = place;
        }
    }

    private interface Ridden {
        boolean may(int arc, int other);
    }

    private byte[] tape = new byte[0];
    private int faultPlace = NONE;
    private List<int[]> corners = new ArrayList<>();
    private List<int[]> streets = new ArrayList<>();
    private TreeSet<Integer> boxes = new TreeSet<>();
    private List<int[]> riders = new ArrayList<>();
    private List<State> states = new ArrayList<>(List.of(new State(new boolean[24][24], new boolean[24][24])));
    private List<Integer> story = new ArrayList<>();
    private List<Image> images = new ArrayList<>();

    int feed(int... numbers) {
        if (tape.length + 20 > 500) {
            return NONE;
        }
        int old = tape.length;
        tape = Arrays.copyOf(tape, old + 20);
        for (int i = 0; i < 20; i++) {
            tape[old + i] = (byte) (numbers[i / 4] >>> 8 * (3 - i % 4));
        }
        return tape.length;
    }

    int town(int n) {
        illegal(n < 0 || n > tape.length);
        String text = new String(tape, 0, n, StandardCharsets.ISO_8859_1);
        tape = new byte[0];
        Oracle fresh = new Oracle();
        try {
            fresh.parse(text);
        } catch (Fault fault) {
            faultPlace = fault.place;
            return fault.kind - 10;
        }
        corners = fresh.corners;
        streets = fresh.streets;
        boxes = fresh.boxes;
        riders = fresh.riders;
        states = fresh.states;
        story = new ArrayList<>();
        images = new ArrayList<>();
        faultPlace = NONE;
        return corners.size();
    }

    // ---- the text

    private String text;
    private int at;
    private int lastPlace;

    private void parse(String whole) {
        text = whole;
        at = 0;
        for (int clause = 0; ; clause++) {
            blanks();
            if (at == text.length()) {
                return;
            }
            int word = at;
            Matcher m = Pattern.compile("[a-z]+").matcher(text).region(at, text.length());
            if (!m.lookingAt() || !List.of("corner", "street", "one", "no", "may", "box", "rider").contains(m.group())) {
                throw new Fault(1, word);
            }
            at = m.end();
            if (clause == 60) {
                throw new Fault(3, word);
            }
            clause(m.group(), word);
            blanks();
            if (at == text.length() || text.charAt(at) != ';') {
                throw new Fault(1, at);
            }
            at++;
        }
    }

    private void clause(String name, int word) {
        State state = states.get(0);
        switch (name) {
            case "corner" -> {
                tooMany(corners.size() == 16, word);
                int x = number(0, 99);
                int y = number(0, 99);
                bad(corners.stream().anyMatch(c -> c[0] == x && c[1] == y));
                corners.add(new int[] {x, y});
            }
            case "street" -> {
                tooMany(streets.size() == 24, word);
                int a = number(0, corners.size() - 1);
                int b = number(0, corners.size() - 1);
                bad(a == b);
                streets.add(new int[] {a, b, number(1, 99), 0});
            }
            case "one" -> streets.get(number(0, streets.size() - 1))[3] = 1;
            case "box" -> {
                tooMany(boxes.size() == 10, word);
                boxes.add(number(0, corners.size() - 1));
            }
            case "rider" -> {
                tooMany(riders.size() == 12, word);
                int a = number(0, corners.size() - 1);
                int b = number(0, corners.size() - 1);
                bad(a == b);
                riders.add(new int[] {a, b, number(0, 99)});
            }
            default -> {
                int s = number(0, streets.size() - 1);
                int t = number(0, streets.size() - 1);
                bad(s == t || !common(s, t));
                (name.equals("no") ? state.signs : state.allowed)[s][t] = true;
            }
        }
    }

    private void blanks() {
        while (at < text.length() && text.charAt(at) == ' ') {
            at++;
        }
    }

    private int number(int low, int high) {
        blanks();
        Matcher m = Pattern.compile("[0-9]+").matcher(text).region(at, text.length());
        if (!m.lookingAt()) {
            throw new Fault(1, at);
        }
        lastPlace = at;
        at = m.end();
        java.math.BigInteger value = new java.math.BigInteger(m.group());
        bad(value.bitLength() > 20 || value.intValue() < low || value.intValue() > high);
        return value.intValue();
    }

    private void bad(boolean is) {
        if (is) {
            throw new Fault(2, lastPlace);
        }
    }

    private static void tooMany(boolean is, int place) {
        if (is) {
            throw new Fault(3, place);
        }
    }

    // ---- what a call must not ask

    private static void illegal(boolean is) {
        if (is) {
            throw new IllegalArgumentException();
        }
    }

    private void corner(int... all) {
        for (int c : all) {
            if (c < 0 || c >= corners.size()) {
                throw new IndexOutOfBoundsException();
            }
        }
    }

    private void needStreets(int... all) {
        for (int s : all) {
            if (s < 0 || s >= streets.size()) {
                throw new NoSuchElementException();
            }
        }
    }

    private void needArcs(int... all) {
        for (int a : all) {
            if (!arcs().contains(a)) {
                throw new NoSuchElementException();
            }
        }
    }

    private void time(int t) {
        illegal(t < 0 || t >= states.size());
    }

    private void what(int what, int last) {
        illegal(what < 0 || what > last);
    }

    // ---- arcs and turns

    private List<Integer> arcs() {
        List<Integer> all = new ArrayList<>();
        for (int s = 0; s < streets.size(); s++) {
            all.add(2 * s);
            if (streets.get(s)[3] == 0) {
                all.add(2 * s + 1);
            }
        }
        return all;
    }

    private int begin(int arc) {
        return streets.get(arc / 2)[arc % 2];
    }

    private int end(int arc) {
        return streets.get(arc / 2)[1 - arc % 2];
    }

    private int len(int arc) {
        return streets.get(arc / 2)[2];
    }

    private boolean common(int s, int t) {
        return List.of(begin(2 * s), end(2 * s)).contains(begin(2 * t))
                || List.of(begin(2 * s), end(2 * s)).contains(end(2 * t));
    }

    private int kind(int arc, int other) {
        if (end(arc) != begin(other)) {
            return NONE;
        }
        if (arc / 2 == other / 2) {
            return 0;
        }
        int x = corners.get(end(arc))[0] - corners.get(begin(arc))[0];
        int y = corners.get(end(arc))[1] - corners.get(begin(arc))[1];
        int u = corners.get(end(other))[0] - corners.get(begin(other))[0];
        int v = corners.get(end(other))[1] - corners.get(begin(other))[1];
        int cross = x * v - y * u;
        return cross > 0 ? 3 : cross < 0 ? 1 : x * u + y * v > 0 ? 2 : 0;
    }

    private Ridden ridden(State state) {
        return (arc, other) -> {
            int kind = kind(arc, other);
            int s = arc / 2;
            int t = other / 2;
            return !state.signs[s][t] && (kind == 1 || kind == 2 || kind == 3 && state.allowed[s][t]);
        };
    }

    private Ridden at(int time) {
        return ridden(states.get(time));
    }

    private Way way(int from, int to, Ridden ridden) {
        if (from == to) {
            return new Way(0, List.of());
        }
        PriorityQueue<Way> queue = new PriorityQueue<>();
        for (int arc : arcs()) {
            if (begin(arc) == from) {
                queue.add(new Way(len(arc), List.of(arc)));
            }
        }
        TreeSet<Integer> seen = new TreeSet<>();
        while (!queue.isEmpty()) {
            Way way = queue.poll();
            int last = way.arcs.get(way.arcs.size() - 1);
            if (end(last) == to) {
                return way;
            }
            if (seen.add(last)) {
                for (int arc : arcs()) {
                    if (ridden.may(last, arc)) {
                        List<Integer> longer = new ArrayList<>(way.arcs);
                        longer.add(arc);
                        queue.add(new Way(way.length + len(arc), longer));
                    }
                }
            }
        }
        return null;
    }

    private TreeSet<Integer> arcsFrom(List<Integer> first, Ridden ridden) {
        TreeSet<Integer> seen = new TreeSet<>(first);
        ArrayDeque<Integer> ahead = new ArrayDeque<>(first);
        while (!ahead.isEmpty()) {
            int arc = ahead.poll();
            for (int other : arcs()) {
                if (end(arc) == begin(other) && ridden.may(arc, other) && seen.add(other)) {
                    ahead.add(other);
                }
            }
        }
        return seen;
    }

    private int reached(int from, Ridden ridden) {
        int bits = 1 << from;
        for (int arc : arcsFrom(arcs().stream().filter(a -> begin(a) == from).toList(), ridden)) {
            bits |= 1 << end(arc);
        }
        return bits;
    }

    private int pairs(Ridden ridden) {
        int many = 0;
        for (int c = 0; c < corners.size(); c++) {
            many += Integer.bitCount(reached(c, ridden)) - 1;
        }
        return many;
    }

    private boolean isOpen(Ridden ridden) {
        for (int c = 0; c < corners.size(); c++) {
            if (reached(c, ridden) != (1 << corners.size()) - 1) {
                return false;
            }
        }
        return true;
    }

    // ---- the face

    int fault() {
        return faultPlace;
    }

    int told(int what) {
        what(what, 5);
        return new int[] {corners.size(), streets.size(), boxes.size(), riders.size(), lefts().size(),
            states.size() - 1}[what];
    }

    int street(int s, int what) {
        needStreets(s);
        what(what, 3);
        return streets.get(s)[what];
    }

    int turn(int arc, int other) {
        needArcs(arc, other);
        return kind(arc, other);
    }

    boolean may(int arc, int other, int time) {
        needArcs(arc, other);
        time(time);
        return at(time).may(arc, other);
    }

    int sign(int s, int t, boolean is) {
        return change(s, t, is, true);
    }

    int allow(int s, int t, boolean is) {
        return change(s, t, is, false);
    }

    private int change(int s, int t, boolean is, boolean sign) {
        needStreets(s, t);
        illegal(s == t || !common(s, t));
        if (states.size() == 201) {
            return -1;
        }
        State next = states.get(states.size() - 1).copy();
        boolean[] row = sign ? next.signs[s] : next.allowed[s];
        if (row[t] == is) {
            return -2;
        }
        row[t] = is;
        states.add(next);
        return states.size() - 1;
    }

    int back(int time) {
        time(time);
        if (states.size() == 201) {
            return -1;
        }
        states.add(states.get(time).copy());
        return states.size() - 1;
    }

    boolean stands(int s, int t, int time, int what) {
        needStreets(s, t);
        time(time);
        what(what, 1);
        return (what == 0 ? states.get(time).signs : states.get(time).allowed)[s][t];
    }

    int ride(int from, int to, int time) {
        corner(from, to);
        time(time);
        Way way = way(from, to, at(time));
        return way == null ? NONE : way.length;
    }

    int step(int from, int to, int time, int k) {
        corner(from, to);
        time(time);
        Way way = way(from, to, at(time));
        return way == null || k < 0 || k >= way.arcs.size() ? NONE : way.arcs.get(k);
    }

    int reach(int c, int time, int what) {
        corner(c);
        time(time);
        what(what, 2);
        int lost = 0;
        int home = 0;
        for (int other = 0; other < corners.size(); other++) {
            boolean to = way(c, other, at(time)) != null;
            boolean fro = way(other, c, at(time)) != null;
            home |= fro ? 1 << other : 0;
            lost += to && !fro ? 1 : 0;
        }
        return what == 0 ? reached(c, at(time)) : what == 1 ? home : lost;
    }

    private List<TreeSet<Integer>> partsAt(int time) {
        Map<Integer, TreeSet<Integer>> from = new HashMap<>();
        for (int arc : arcs()) {
            from.put(arc, arcsFrom(List.of(arc), at(time)));
        }
        List<TreeSet<Integer>> parts = new ArrayList<>();
        for (int arc : arcs()) {
            TreeSet<Integer> part = new TreeSet<>();
            for (int other : arcs()) {
                if (from.get(arc).contains(other) && from.get(other).contains(arc)) {
                    part.add(other);
                }
            }
            if (!parts.contains(part)) {
                parts.add(part);
            }
        }
        return parts;
    }

    int parts(int time, int what) {
        time(time);
        what(what, 1);
        List<TreeSet<Integer>> parts = partsAt(time);
        return what == 0 ? parts.size() : parts.stream().mapToInt(TreeSet::size).max().orElse(0);
    }

    boolean together(int arc, int other, int time) {
        needArcs(arc, other);
        time(time);
        return partsAt(time).stream().anyMatch(p -> p.contains(arc) && p.contains(other));
    }

    int open(int time, int what) {
        time(time);
        what(what, 1);
        return what == 0 ? isOpen(at(time)) ? 1 : 0 : pairs(at(time));
    }

    int since(int from, int to, int time, boolean is) {
        corner(from, to);
        time(time);
        for (int t = time; t < states.size(); t++) {
            if ((ride(from, to, t) != NONE) == is) {
                return t;
            }
        }
        return NONE;
    }

    private List<Integer> lefts() {
        TreeSet<Integer> all = new TreeSet<>();
        for (int arc : arcs()) {
            for (int other : arcs()) {
                if (kind(arc, other) == 3) {
                    all.add(arc / 2 * 100 + other / 2);
                }
            }
        }
        return new ArrayList<>(all);
    }

    int left(int k) {
        return k < 0 || k >= lefts().size() ? NONE : lefts().get(k);
    }

    private List<Integer> candidatesAt(State state) {
        List<Integer> all = lefts();
        all.removeIf(l -> state.allowed[l / 100][l % 100] || state.signs[l / 100][l % 100]);
        return all.size() > 14 ? all.subList(0, 14) : all;
    }

    int candidates(int time) {
        time(time);
        return candidatesAt(states.get(time)).size();
    }

    private int[] leastOpening(int time, boolean byCost) {
        List<Integer> all = candidatesAt(states.get(time));
        int best = Integer.MAX_VALUE;
        int bestBits = NONE;
        for (int bits = 0; bits < 1 << all.size(); bits++) {
            State state = states.get(time).copy();
            int sum = 0;
            for (int i = 0; i < all.size(); i++) {
                if ((bits >> i & 1) != 0) {
                    int s = all.get(i) / 100;
                    int t = all.get(i) % 100;
                    state.allowed[s][t] = true;
                    sum += byCost ? 1 + (streets.get(s)[2] + streets.get(t)[2]) / 10 : 1;
                }
            }
            if (sum < best && isOpen(ridden(state))) {
                best = sum;
                bestBits = bits;
            }
        }
        return new int[] {bestBits == NONE ? NONE : best, bestBits};
    }

    int fewest(int time, int what) {
        time(time);
        what(what, 1);
        return leastOpening(time, false)[what];
    }

    int cheapest(int time, int what) {
        time(time);
        what(what, 1);
        return leastOpening(time, true)[what];
    }

    int exchange(int time, int what) {
        time(time);
        what(what, 1);
        State now = states.get(time);
        int best = pairs(at(time));
        int bestTwo = NONE;
        List<Integer> lefts = lefts();
        for (int out : lefts) {
            for (int in : candidatesAt(now)) {
                if (now.allowed[out / 100][out % 100] && !now.signs[out / 100][out % 100]) {
                    State state = now.copy();
                    state.allowed[out / 100][out % 100] = false;
                    state.allowed[in / 100][in % 100] = true;
                    int many = pairs(ridden(state));
                    if (many > best) {
                        best = many;
                        bestTwo = 1000 * lefts.indexOf(out) + lefts.indexOf(in);
                    }
                }
            }
        }
        return what == 0 ? bestTwo : best;
    }

    int round(int corner, int time) {
        corner(corner);
        time(time);
        TreeSet<Integer> wanted = new TreeSet<>(boxes);
        wanted.remove(corner);
        if (wanted.isEmpty()) {
            return 0;
        }
        int all = 0;
        for (int box : wanted) {
            all |= 1 << box;
        }
        PriorityQueue<int[]> queue = new PriorityQueue<>((p, q) -> Integer.compare(p[0], q[0]));
        for (int arc : arcs()) {
            if (begin(arc) == corner) {
                queue.add(new int[] {len(arc), arc, all & 1 << end(arc)});
            }
        }
        TreeSet<Integer> seen = new TreeSet<>();
        while (!queue.isEmpty()) {
            int[] so = queue.poll();
            if (so[2] == all && end(so[1]) == corner) {
                return so[0];
            }
            if (seen.add(so[2] * 64 + so[1])) {
                for (int arc : arcs()) {
                    if (at(time).may(so[1], arc)) {
                        queue.add(new int[] {so[0] + len(arc), arc, so[2] | all & 1 << end(arc)});
                    }
                }
            }
        }
        return NONE;
    }

    int bound(int corner, int time) {
        corner(corner);
        time(time);
        TreeSet<Integer> stops = new TreeSet<>(boxes);
        stops.add(corner);
        if (stops.size() == 1) {
            return 0;
        }
        List<Integer> list = new ArrayList<>(stops);
        int[][] cost = new int[list.size()][list.size()];
        for (int i = 0; i < list.size(); i++) {
            for (int j = 0; j < list.size(); j++) {
                cost[i][j] = i == j ? NONE : ride(list.get(i), list.get(j), time);
            }
        }
        int least = assign(cost, 0, new boolean[list.size()], 0, Integer.MAX_VALUE);
        return least == Integer.MAX_VALUE ? NONE : least;
    }

    private static int assign(int[][] cost, int i, boolean[] taken, int sum, int best) {
        if (sum >= best || i == cost.length) {
            return Math.min(sum, best);
        }
        int least = best;
        for (int j = 0; j < cost.length; j++) {
            if (!taken[j] && cost[i][j] != NONE) {
                taken[j] = true;
                least = assign(cost, i + 1, taken, sum + cost[i][j], least);
                taken[j] = false;
            }
        }
        return least;
    }

    private static final class Rider {
        List<Integer> way;
        int next = 0;
        int start;
        int toGo = 0;
        int arrived = NONE;
        int home = NONE;
        int waits = 0;
        boolean riding = false;
    }

    private int lastRounds;

    private List<Rider> drive() {
        List<Rider> all = new ArrayList<>();
        for (int[] told : riders) {
            Rider rider = new Rider();
            Way way = way(told[0], told[1], at(states.size() - 1));
            rider.way = way == null ? null : way.arcs;
            rider.start = told[2];
            all.add(rider);
        }
        lastRounds = 0;
        while (lastRounds < 999 && all.stream().anyMatch(r -> r.way != null && r.home == NONE)) {
            int now = lastRounds++;
            for (Rider rider : all) {
                if (rider.way == null || rider.home != NONE) {
                    continue;
                }
                if (rider.start == now) {
                    rider.riding = true;
                    rider.toGo = len(rider.way.get(0));
                } else if (rider.riding && rider.toGo > 0 && --rider.toGo == 0) {
                    rider.arrived = now;
                }
            }
            for (int c = 0; c < corners.size(); c++) {
                List<Rider> there = new ArrayList<>();
                for (Rider rider : all) {
                    if (rider.riding && rider.toGo == 0 && rider.home == NONE && end(rider.way.get(rider.next)) == c) {
                        there.add(rider);
                    }
                }
                if (there.isEmpty()) {
                    continue;
                }
                Rider first = Collections.min(there, (p, q) -> Integer.compare(p.arrived, q.arrived));
                for (Rider rider : there) {
                    rider.waits += rider == first ? 0 : 1;
                }
                if (++first.next == first.way.size()) {
                    first.home = now;
                } else {
                    first.toGo = len(first.way.get(first.next));
                }
            }
        }
        return all;
    }

    int home(int rider) {
        illegal(rider < 0 || rider >= riders.size());
        return drive().get(rider).home;
    }

    int traffic(int what) {
        what(what, 3);
        List<Rider> all = drive();
        if (what == 0) {
            return lastRounds;
        }
        if (what == 1) {
            return (int) all.stream().filter(r -> r.home != NONE).count();
        }
        int sum = all.stream().mapToInt(r -> r.waits).sum();
        if (what == 2 || sum == 0) {
            return what == 2 ? sum : NONE;
        }
        int most = all.stream().mapToInt(r -> r.waits).max().getAsInt();
        for (int i = 0; ; i++) {
            if (all.get(i).waits == most) {
                return i;
            }
        }
    }

    int counts(int s) {
        needStreets(s);
        return (int) riders.stream().map(r -> way(r[0], r[1], at(states.size() - 1)))
                .filter(w -> w != null && w.arcs.stream().anyMatch(a -> a / 2 == s)).count();
    }

    int tell(int c) {
        corner(c);
        if (story.size() == 12) {
            return -1;
        }
        story.add(c);
        return story.size();
    }

    int forget() {
        int many = story.size();
        story.clear();
        return many;
    }

    /** All rows of arcs of the told ride; null: too many to write out. */
    private List<List<Integer>> rows() {
        List<List<Integer>> rows = new ArrayList<>(List.of(List.of()));
        for (int i = 0; i + 1 < story.size(); i++) {
            List<List<Integer>> longer = new ArrayList<>();
            for (List<Integer> row : rows) {
                for (int arc : arcs()) {
                    if (begin(arc) == story.get(i) && end(arc) == story.get(i + 1)) {
                        List<Integer> one = new ArrayList<>(row);
                        one.add(arc);
                        longer.add(one);
                    }
                }
            }
            rows = longer;
            if (rows.size() > 20000) {
                return null;
            }
        }
        return rows;
    }

    boolean isTooLong() {
        return rows() == null;
    }

    private TreeSet<Integer> broken(List<Integer> row, int time) {
        TreeSet<Integer> places = new TreeSet<>();
        for (int i = 0; i + 1 < row.size(); i++) {
            if (!at(time).may(row.get(i), row.get(i + 1))) {
                places.add(i);
            }
        }
        return places;
    }

    long breaks(int time, int what) {
        time(time);
        what(what, 1);
        if (story.size() < 2) {
            return 0;
        }
        List<List<Integer>> rows = rows();
        if (rows.isEmpty()) {
            return NONE;
        }
        int few = rows.stream().mapToInt(r -> broken(r, time).size()).min().getAsInt();
        return what == 0 ? few : rows.stream().filter(r -> broken(r, time).size() == few).count();
    }

    int cut(int time) {
        time(time);
        int n = corners.size();
        int[] reached = new int[n];
        for (int c = 0; c < n; c++) {
            reached[c] = reached(c, at(time));
        }
        int best = 0;
        for (int set = 1; set < (1 << n) - 1; set++) {
            int from = 0;
            for (int c = 0; c < n; c++) {
                from |= (set >> c & 1) != 0 ? reached[c] : 0;
            }
            if ((from & ~set) == 0 && (best == 0 || Integer.bitCount(set) < Integer.bitCount(best))) {
                best = set;
            }
        }
        return best;
    }

    int sure(int time, int k) {
        time(time);
        if (story.size() < 2 || rows().isEmpty()) {
            return NONE;
        }
        long few = breaks(time, 0);
        TreeSet<Integer> sure = null;
        for (List<Integer> row : rows()) {
            TreeSet<Integer> places = broken(row, time);
            if (places.size() == few) {
                TreeSet<Integer> pairs = new TreeSet<>();
                for (int i : places) {
                    pairs.add(row.get(i) / 2 * 100 + row.get(i + 1) / 2);
                }
                if (sure == null) {
                    sure = pairs;
                } else {
                    sure.retainAll(pairs);
                }
            }
        }
        return k < 0 || k >= sure.size() ? NONE : new ArrayList<>(sure).get(k);
    }

    int detour(int from, int to, int time) {
        corner(from, to);
        time(time);
        int real = ride(from, to, time);
        return real == NONE ? NONE : real - way(from, to, (a, b) -> kind(a, b) > 0).length;
    }

    private int[] ridersTogether(State state) {
        int many = 0;
        int sum = 0;
        for (int[] rider : riders) {
            Way way = way(rider[0], rider[1], ridden(state));
            many += way == null ? 0 : 1;
            sum += way == null ? 0 : way.length;
        }
        return new int[] {many, sum};
    }

    int gain(int time, int what) {
        time(time);
        what(what, 1);
        int[] best = ridersTogether(states.get(time));
        int number = NONE;
        for (int left : candidatesAt(states.get(time))) {
            State state = states.get(time).copy();
            state.allowed[left / 100][left % 100] = true;
            int[] then = ridersTogether(state);
            if (then[0] > best[0] || then[0] == best[0] && then[1] < best[1]) {
                best = then;
                number = lefts().indexOf(left);
            }
        }
        return what == 0 ? number : best[1];
    }

    int baker(int time, int what) {
        time(time);
        what(what, 1);
        int[] passed = new int[24];
        for (int a = 0; a < corners.size(); a++) {
            for (int b = 0; b < corners.size(); b++) {
                Way way = way(a, b, at(time));
                if (way != null) {
                    way.arcs.stream().map(arc -> arc / 2).distinct().forEach(s -> passed[s]++);
                }
            }
        }
        int most = Arrays.stream(passed).max().getAsInt();
        if (what == 1 || most == 0) {
            return what == 1 ? most : NONE;
        }
        for (int s = 0; ; s++) {
            if (passed[s] == most) {
                return s;
            }
        }
    }

    int image() {
        if (images.size() == 3) {
            return -1;
        }
        List<State> copies = new ArrayList<>();
        for (State state : states) {
            copies.add(state.copy());
        }
        images.add(new Image(copies, new ArrayList<>(story)));
        return images.size();
    }

    int restore() {
        if (images.isEmpty()) {
            return -1;
        }
        Image image = images.remove(images.size() - 1);
        states = image.states;
        story = image.story;
        return images.size();
    }

    int count(int what) {
        return what == 0 ? story.size() : what == 1 ? images.size() : what == 2 ? tape.length : NONE;
    }
}
