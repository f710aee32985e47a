import java.nio.charset.StandardCharsets;

/** What the tests share: answers that are due, and texts put on the tape. */
final class Due {
    private static int wrong = 0;

    private Due() {
    }

    static void due(String call, long got, long want) {
        if (got != want) {
            wrong++;
            System.out.println(call + " answered " + got + ", due is " + want);
        }
    }

    static void due(String call, boolean got, boolean want) {
        due(call, got ? 1 : 0, want ? 1 : 0);
    }

    /** Puts a text on an empty tape. */
    static void put(SalvageCourt court, String text) {
        byte[] bytes = text.getBytes(StandardCharsets.ISO_8859_1);
        for (int at = 0; at < bytes.length; at += 20) {
            court.feed(word(bytes, at), word(bytes, at + 4), word(bytes, at + 8),
                    word(bytes, at + 12), word(bytes, at + 16));
        }
        court.end(bytes.length);
    }

    static int word(byte[] bytes, int at) {
        int word = 0;
        for (int i = at; i < at + 4; i++) {
            word = word << 8 | (i < bytes.length ? bytes[i] & 255 : 0);
        }
        return word;
    }

    static int tellLaw(SalvageCourt court, String text, int day) {
        put(court, text);
        return court.law(day);
    }

    static void finish() {
        if (wrong != 0) {
            System.out.println(wrong + " answers are not as due");
            System.exit(1);
        }
    }
}
