import java.nio.charset.StandardCharsets;

/** Puts texts on the tape of an object. */
final class Texts {
    /** Who wants from 0 to 8 rides along street 1, round by right turns, and back along it: all others are one way. */
    static final String TO_AND_FRO = "corner0 5;corner5 5;corner9 5;corner12 5;corner12 2;corner6 2;corner6 8;corner9 8;"
            + "corner5 9;street0 1 1;street1 2 1;street2 3 1;street3 4 1;street4 5 1;street5 6 1;street6 7 1;street7 2 1;"
            + "street1 8 1;one0;one2;one3;one4;one5;one6;one7;one8;";

    private Texts() {
    }

    static int[] numbersOf(String text, int from) {
        byte[] bytes = text.getBytes(StandardCharsets.ISO_8859_1);
        int[] numbers = new int[5];
        for (int i = 0; i < 20; i++) {
            int sign = from + i < bytes.length ? bytes[from + i] & 255 : 0;
            numbers[i / 4] = numbers[i / 4] << 8 | sign;
        }
        return numbers;
    }

    static void feed(RightTurns turns, String text) {
        for (int from = 0; from < text.length(); from += 20) {
            int[] n = numbersOf(text, from);
            turns.feed(n[0], n[1], n[2], n[3], n[4]);
        }
    }

    /** What town() answers to the whole text. */
    static int tell(RightTurns turns, String text) {
        feed(turns, text);
        return turns.town(text.length());
    }

    static RightTurns townOf(String text) {
        RightTurns turns = new RightTurns();
        int answer = tell(turns, text);
        if (answer < 0) {
            throw new IllegalStateException("faulty test town: " + answer + " at " + turns.fault() + ": " + text);
        }
        return turns;
    }

    /** What a new object answers to the whole text: corners, or the fault less 10, and the fault's place. */
    static String outcome(String text) {
        RightTurns turns = new RightTurns();
        return tell(turns, text) + " at " + turns.fault();
    }

    /** So many corners in a row from west to east, as short as can be. */
    static String row(int many) {
        StringBuilder text = new StringBuilder();
        for (int i = 0; i < many; i++) {
            text.append("corner").append(i).append(" 0;");
        }
        return text.toString();
    }

    /** Eleven corners on a bow, each with a street of 1 to the next one; by growing number all turns go right. */
    static String ring(String rest) {
        StringBuilder text = new StringBuilder();
        for (int i = 0; i < 11; i++) {
            text.append("corner ").append(4 * i).append(' ').append(i * (18 - i)).append(';');
        }
        for (int i = 0; i < 11; i++) {
            text.append("street ").append(i).append(' ').append((i + 1) % 11).append(" 1;");
        }
        return text + rest;
    }
}
