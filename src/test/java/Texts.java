import java.nio.charset.StandardCharsets;

/** Puts texts on the tape of an object. */
final class Texts {
    private Texts() {
    }

    static int[] numbersOf(String text, int from) {
        byte[] bytes = text.getBytes(StandardCharsets.ISO_8859_1);
        int[] numbers = new int[5];
        for (int i = 0; i < 20; i++) {
            int sign = from + i < bytes.length ? bytes[from + i] & 255 : 0;
            numbers[i / 4] = numbers[i / 4] << 8 | sign;
        }
        return numbers;
    }

    static void feed(RightTurns turns, String text) {
        for (int from = 0; from < text.length(); from += 20) {
            int[] n = numbersOf(text, from);
            turns.feed(n[0], n[1], n[2], n[3], n[4]);
        }
    }

    /** What town() answers to the whole text. */
    static int tell(RightTurns turns, String text) {
        feed(turns, text);
        return turns.town(text.length());
    }

    static RightTurns townOf(String text) {
        RightTurns turns = new RightTurns();
        int answer = tell(turns, text);
        if (answer < 0) {
            throw new IllegalStateException("faulty test town: " + answer + " at " + turns.fault() + ": " + text);
        }
        return turns;
    }
}
