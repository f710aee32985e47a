import java.nio.charset.StandardCharsets;

/** Promise 15 for texts that are nearly right: each byte at each place, held against the Model. */
final class TextTest {
    private static final String[] TEXTS = {
        " weigh danger 99;weigh worth 0 ; give mean ;like 9999;else 1000;life 100;late 1000 after 5000;",
        "give least;weigh skill7;late3after4;like 0001;",
        "weigh weather 12;weigh labour 3;give greatest ;  else 5 ; give middle;",
    };

    public static void main(String[] args) {
        for (String text : TEXTS) {
            for (int place = 0; place <= text.length(); place++) {
                String front = text.substring(0, place);
                String back = text.substring(place);
                told(front);
                told(back);
                told(back + front);
                for (int sign = 0; sign < 256; sign++) {
                    told(front + (char) sign + back);
                    told(front + (char) sign + (back.isEmpty() ? "" : back.substring(1)));
                }
                told(front + (back.isEmpty() ? "" : back.substring(1)));
            }
        }
        Due.finish();
    }

    private static void told(String text) {
        SalvageCourt court = new SalvageCourt();
        Model model = new Model();
        byte[] bytes = text.getBytes(StandardCharsets.ISO_8859_1);
        for (int at = 0; at < bytes.length; at += 20) {
            int[] w = new int[5];
            for (int i = 0; i < 5; i++) {
                w[i] = Due.word(bytes, at + 4 * i);
            }
            court.feed(w[0], w[1], w[2], w[3], w[4]);
            model.feed(w);
        }
        court.end(bytes.length);
        model.end(bytes.length);
        Due.due("P15 '" + text + "'", court.law(0), model.law(0));
    }
}
