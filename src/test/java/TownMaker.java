import java.util.ArrayList;
import java.util.List;
import java.util.Random;

/** Random towns, told as texts. */
final class TownMaker {
    private TownMaker() {
    }

    static String town(Random random) {
        List<String> clauses = new ArrayList<>();
        int kind = random.nextInt(4);
        int wide = 2 + random.nextInt(3);
        int corners = kind == 0 ? random.nextInt(17) : 2 + random.nextInt(8);
        List<int[]> places = new ArrayList<>();
        for (int i = 0; i < corners; i++) {
            int[] place = kind < 3 ? new int[] {i % wide, i / wide} : new int[] {random.nextInt(6), random.nextInt(6)};
            if (places.stream().noneMatch(p -> p[0] == place[0] && p[1] == place[1])) {
                places.add(place);
                clauses.add("corner " + place[0] + " " + place[1]);
            }
        }
        List<int[]> streets = new ArrayList<>();
        int most = random.nextInt(kind == 0 ? 25 : 13);
        for (int tries = 0; tries < 200 && streets.size() < most && places.size() > 1; tries++) {
            int a = random.nextInt(places.size());
            int b = random.nextInt(places.size());
            int far = Math.abs(places.get(a)[0] - places.get(b)[0]) + Math.abs(places.get(a)[1] - places.get(b)[1]);
            if (far == 1 || far > 1 && random.nextInt(8) == 0) {
                streets.add(new int[] {a, b});
                clauses.add("street " + a + " " + b + " " + (1 + random.nextInt(random.nextBoolean() ? 3 : 30)));
            }
        }
        addPairs(clauses, streets, random);
        for (int i = random.nextInt(random.nextInt(6) == 0 ? 14 : 5); i > 0 && places.size() > 1; i--) {
            clauses.add("box " + random.nextInt(places.size()));
        }
        for (int i = random.nextInt(random.nextInt(6) == 0 ? 13 : 6); i > 0 && places.size() > 1; i--) {
            int a = random.nextInt(places.size());
            int b = (a + 1 + random.nextInt(places.size() - 1)) % places.size();
            clauses.add("rider " + a + " " + b + " " + random.nextInt(random.nextBoolean() ? 3 : 100));
        }
        return write(clauses, random);
    }

    private static void addPairs(List<String> clauses, List<int[]> streets, Random random) {
        for (int i = random.nextInt(8); i > 0 && !streets.isEmpty(); i--) {
            int s = random.nextInt(streets.size());
            int t = random.nextInt(streets.size());
            int[] a = streets.get(s);
            int[] b = streets.get(t);
            boolean common = a[0] == b[0] || a[0] == b[1] || a[1] == b[0] || a[1] == b[1];
            if (random.nextInt(4) == 0) {
                clauses.add("one " + s);
            } else if (s != t && common) {
                clauses.add((random.nextBoolean() ? "no " : "may ") + s + " " + t);
            }
        }
    }

    /** As much of it as 500 bytes and 60 clauses take. */
    private static String write(List<String> clauses, Random random) {
        StringBuilder text = new StringBuilder();
        int many = 0;
        for (String clause : clauses) {
            if (text.length() + clause.length() + 3 > 500 || many == 60) {
                break;
            }
            text.append(random.nextInt(20) == 0 ? " " : "").append(clause).append(random.nextInt(20) == 0 ? " ;" : ";");
            many++;
        }
        return text.toString();
    }

    /** A grid of 10 to 16 corners with most of its streets: there are many left turns. */
    static String grid(Random random) {
        StringBuilder text = new StringBuilder();
        int corners = 10 + random.nextInt(7);
        int wide = 3 + random.nextInt(2);
        for (int i = 0; i < corners; i++) {
            text.append("corner").append(i % wide).append(' ').append(i / wide).append(';');
        }
        int streets = 0;
        for (int i = 0; i < 2 * corners && streets < 24; i++) {
            int a = i / 2;
            int b = i % 2 == 0 ? a + 1 : a + wide;
            boolean beside = i % 2 != 0 || b % wide != 0;
            if (beside && b < corners && random.nextInt(12) > 0) {
                text.append("street").append(a).append(' ').append(b).append(' ').append(1 + random.nextInt(30)).append(';');
                streets++;
            }
        }
        return text.toString();
    }

    /** One or two places are made anew. */
    static String spoil(String text, Random random) {
        StringBuilder other = new StringBuilder(text);
        String signs = "0123456789 ;;  corner street one no may box rider\t{Z\u00e9";
        for (int i = 1 + random.nextInt(2); i > 0 && other.length() > 0; i--) {
            int at = random.nextInt(other.length());
            switch (random.nextInt(5)) {
                case 0 -> other.deleteCharAt(at);
                case 1 -> other.setCharAt(at, signs.charAt(random.nextInt(signs.length())));
                case 2 -> other.insert(at, signs.charAt(random.nextInt(signs.length())));
                case 3 -> other.setLength(at);
                default -> {
                    int word = signs.indexOf("corner") + random.nextInt(20);
                    other.insert(other.indexOf(";", at) + 1, signs.substring(word, word + random.nextInt(9)));
                }
            }
        }
        return other.length() > 500 ? other.substring(0, 500) : other.toString();
    }
}
