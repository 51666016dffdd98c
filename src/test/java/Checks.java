import java.nio.charset.StandardCharsets;
import java.util.Arrays;

/** What the tests share: counting wrong answers, and telling an object a text. */
final class Checks {
    private int made = 0;
    private int wrong = 0;
    private String sentence = "";

    /** The document's words that the calls from here on are due by. */
    void sentence(String words) {
        sentence = words;
    }

    void due(String call, int got, int want) {
        made++;
        if (got != want) {
            wrong++;
            String told = call + " answered " + got + ", due is " + want
                    + (sentence.isEmpty() ? "" : " by \"" + sentence + "\"");
            // Texts with any bytes are told here: what can't be printed stands as a mark.
            System.out.println(told.replaceAll("[^ -~]", "?"));
        }
    }

    void due(String call, boolean got, boolean want) {
        due(call, got ? 1 : 0, want ? 1 : 0);
    }

    int wrongOnes() {
        return wrong;
    }

    void end() {
        System.out.println(made + " checks, " + wrong + " wrong");
        if (wrong != 0) {
            System.exit(1);
        }
    }

    static byte[] bytesOf(String text) {
        return text.getBytes(StandardCharsets.ISO_8859_1);
    }

    /** Puts the text's bytes behind the tape; the bytes that fill the last feed() up go again. */
    static int feedText(CrescentCourt court, String text) {
        byte[] bytes = bytesOf(text);
        byte[] full = Arrays.copyOf(bytes, (bytes.length + 19) / 20 * 20);
        for (int at = 0; at < full.length; at += 20) {
            court.feed(word(full, at), word(full, at + 4), word(full, at + 8),
                    word(full, at + 12), word(full, at + 16));
        }
        return court.back(full.length - bytes.length);
    }

    static int readText(CrescentCourt court, int land, String text) {
        feedText(court, text);
        return court.read(land);
    }

    private static int word(byte[] bytes, int at) {
        return (bytes[at] & 255) << 24 | (bytes[at + 1] & 255) << 16
                | (bytes[at + 2] & 255) << 8 | bytes[at + 3] & 255;
    }
}
