import java.nio.charset.StandardCharsets;
import java.util.Random;

/** Random runs of up to 512 calls, all promises at once, held against the Model. */
final class ModelTest {
    private static final int RUNS = 400;
    private static final int CALLS = 512;
    private static final long[] ODD_WORDS = {Long.MIN_VALUE, Long.MAX_VALUE, -1, 0, 1, 9, 10,
        0x1111111111111111L, 0x9999999999999999L, Integer.MIN_VALUE, Integer.MAX_VALUE};
    private static final int[] ODD = {Integer.MIN_VALUE, -10001, -2, -1, 0, 1, 9, 10, 15, 16, 40, 60,
        61, 99, 100, 101, 1000, 1001, 5000, 5001, 10001, 99999, 100000, 1000001, Integer.MAX_VALUE};

    private final Random random;
    private final int mode;
    private final int days;
    private final int things;
    // One argument in so many is odd; in wild runs so many that most calls have one.
    private final int oddness;
    private SalvageCourt court = new SalvageCourt();
    private Model model = new Model();

    private ModelTest(long seed) {
        random = new Random(seed);
        mode = random.nextInt(4);
        days = random.nextBoolean() ? 12 : 5000;
        things = 2 + random.nextInt(15);
        oddness = random.nextInt(5) == 0 ? 8 : 60;
    }

    public static void main(String[] args) {
        int runs = args.length > 0 ? Integer.parseInt(args[0]) : RUNS;
        long first = args.length > 1 ? Long.parseLong(args[1]) : 0;
        for (long seed = first; seed < first + runs; seed++) {
            ModelTest test = new ModelTest(seed);
            for (int call = 0; call < CALLS; call++) {
                test.step("seed " + seed + " call " + call + ": ");
            }
        }
        Due.finish();
    }

    /** Mostly a number within bounds, now and then an odd one. */
    private int some(int least, int most) {
        int dice = random.nextInt(oddness);
        if (dice == 0) {
            return random.nextInt(10) == 0 ? random.nextInt() : ODD[random.nextInt(ODD.length)];
        }
        if (dice == 1) {
            return random.nextBoolean() ? least - 1 : most + 1;
        }
        if (dice < 6) {
            return random.nextBoolean() ? least : most;
        }
        return least + random.nextInt(most - least + 1);
    }

    private int someDay() {
        return some(0, days);
    }

    private void step(String where) {
        int kind = random.nextInt(100);
        if (mode == 0 && kind < 60) {
            stepTale(where);
        } else if (mode == 1 && kind < 60) {
            stepLaw(where);
        } else if (mode == 2 && kind < 60) {
            stepParting(where);
        } else {
            switch (kind % 5) {
                case 0: stepTale(where); break;
                case 1: stepWorth(where); break;
                case 2: stepLaw(where); break;
                case 3: stepParting(where); break;
                default: stepJudge(where); break;
            }
        }
    }

    private void stepTale(String where) {
        int x = some(0, things - 1);
        int y = some(0, things - 1);
        switch (random.nextInt(10)) {
            case 0: case 1: case 2:
                int log = some(0, 5);
                int width = mode == 0 ? 20 : 10000;
                int low = some(-width / 4, width);
                int high = random.nextInt(20) == 0 ? some(-width, width) : low + random.nextInt(width / 2);
                Due.due(where + "says " + log + " " + x + " " + y + " " + low + " " + high,
                        court.says(log, x, y, low, high), model.says(log, x, y, low, high));
                break;
            case 3:
                int v = some(0, 9);
                Due.due(where + "trust", court.trust(x, v), model.trust(x, v));
                break;
            case 4:
                int saying = some(0, 39);
                Due.due(where + "believed", court.believed(saying), model.believed(saying));
                break;
            case 5: case 6: case 7:
                int what = some(0, 1);
                Due.due(where + "spans", court.spans(x, y, what), model.spans(x, y, what));
                break;
            case 8:
                Due.due(where + "quarrel", court.quarrel(), model.quarrel());
                break;
            default:
                int k = some(0, 8);
                Due.due(where + "quarrels", court.quarrels(k), model.quarrels(k));
                break;
        }
    }

    private void stepWorth(String where) {
        int good = some(0, 9);
        int day = someDay();
        switch (random.nextInt(4)) {
            case 0:
                int later = model.today + random.nextInt(days / 6) - random.nextInt(2);
                Due.due(where + "clock", court.clock(later), model.clock(later));
                break;
            case 1:
                int coins = some(0, 1000000);
                int repairs = some(0, random.nextBoolean() ? 1000 : 1000000);
                Due.due(where + "value", court.value(good, coins, repairs, day),
                        model.value(good, coins, repairs, day));
                break;
            case 2:
                int known = someDay();
                Due.due(where + "saved", court.saved(good, known, day), model.saved(good, known, day));
                break;
            default:
                int what = some(0, 7);
                Due.due(where + "count", court.count(what), model.count(what));
                break;
        }
    }

    private void stepLaw(String where) {
        int marks = random.nextBoolean() ? some(0, 99999) : 55555 + random.nextInt(10);
        switch (random.nextInt(8)) {
            case 0: case 1:
                int award = some(0, 1000);
                int day = someDay();
                Due.due(where + "earlier", court.earlier(marks, award, day), model.earlier(marks, award, day));
                break;
            case 2:
                int k = some(0, 39);
                int from = someDay();
                Due.due(where + "overrule", court.overrule(k, from), model.overrule(k, from));
                break;
            case 3:
                int lives = some(0, random.nextBoolean() ? 5 : 99);
                Due.due(where + "suit", court.suit(marks, lives), model.suit(marks, lives));
                break;
            case 4: case 5: case 6:
                stepText(where);
                break;
            default:
                int n = some(0, 300);
                Due.due(where + "end", court.end(n), model.end(n));
                break;
        }
    }

    private void stepText(String where) {
        if (random.nextInt(oddness) == 0) {
            feedOdd(where);
        }
        if (random.nextInt(4) != 0) {
            Due.due(where + "end", court.end(0), model.end(0));
        }
        String text = someText();
        byte[] bytes = text.getBytes(StandardCharsets.ISO_8859_1);
        int before = model.tape.length();
        for (int at = 0; at < bytes.length; at += 20) {
            int[] w = new int[5];
            for (int i = 0; i < 5; i++) {
                w[i] = Due.word(bytes, at + 4 * i);
            }
            Due.due(where + "feed", court.feed(w[0], w[1], w[2], w[3], w[4]), model.feed(w));
        }
        int length = before + bytes.length;
        Due.due(where + "end", court.end(length), model.end(length));
        if (random.nextInt(20) != 0) {
            int day = someDay();
            String tape = model.tape;
            Due.due(where + "law '" + tape + "'", court.law(day), model.law(day));
        }
    }

    private void feedOdd(String where) {
        int[] w = new int[5];
        for (int i = 0; i < 5; i++) {
            w[i] = some(0x20202020, 0x7a7a7a7a);
        }
        Due.due(where + "feed", court.feed(w[0], w[1], w[2], w[3], w[4]), model.feed(w));
        int day = someDay();
        Due.due(where + "law", court.law(day), model.law(day));
    }

    private String blanks(int least) {
        int dice = random.nextInt(12);
        return " ".repeat(dice == 0 ? 2 : dice == 1 ? 1 : dice == 2 ? 0 : least);
    }

    private String pick(String... words) {
        return words[random.nextInt(words.length)];
    }

    private String number(int most) {
        return String.valueOf(random.nextInt(40) == 0 ? most + random.nextInt(2) : random.nextInt(most + 1));
    }

    private String someText() {
        StringBuilder text = new StringBuilder();
        String[] kinds = {"weigh danger", "weigh skill", "weigh labour", "weigh weather", "weigh worth",
            "like", "give", "else", "life", "late"};
        for (int i = 0; i < kinds.length; i++) {
            int other = random.nextInt(kinds.length);
            String held = kinds[i];
            kinds[i] = kinds[other];
            kinds[other] = held;
        }
        for (String kind : kinds) {
            int dice = random.nextInt(10);
            int times = kind.equals("give") ? (dice == 0 ? 0 : 1) : dice < 5 ? 0 : 1;
            times += random.nextInt(100) == 0 ? 1 : 0;
            for (int i = 0; i < times; i++) {
                text.append(clause(kind));
            }
        }
        text.append(blanks(0));
        return random.nextInt(4) == 0 ? spoilt(text) : text.toString();
    }

    private String clause(String kind) {
        String front = blanks(0) + kind + blanks(1);
        String back = blanks(0) + ";";
        switch (kind) {
            case "give": return front + pick("least", "middle", "greatest", "mean") + back;
            case "like": return front + number(random.nextInt(3) == 0 ? 9999 : 300) + back;
            case "else": return front + number(1000) + back;
            case "life": return front + number(random.nextBoolean() ? 5 : 100) + back;
            case "late": return front + number(1000) + blanks(1) + "after" + blanks(1) + number(5000) + back;
            default: return front + number(99) + back;
        }
    }

    private String spoilt(StringBuilder text) {
        int changes = 1 + random.nextInt(2);
        for (int i = 0; i < changes && text.length() > 0; i++) {
            int at = random.nextInt(text.length());
            char sign = pick("a", "z", "0", "9", " ", ";", "A", "{", "`", "/", ":", "\t", "\u00e9", "\u0000",
                    "\u00ff", "00").charAt(0);
            switch (random.nextInt(4)) {
                case 0: text.setCharAt(at, sign); break;
                case 1: text.insert(at, sign); break;
                case 2: text.deleteCharAt(at); break;
                default: text.setLength(at); break;
            }
        }
        return text.toString();
    }

    private void stepParting(String where) {
        switch (random.nextInt(4)) {
            case 0: case 1:
                int hands = random.nextBoolean() ? some(1, 60) : 1 + random.nextInt(4);
                long[] w = new long[4];
                for (int k = 0; k < 64; k++) {
                    long weight = k < hands && random.nextInt(500) != 0
                            ? 1 + random.nextInt(9) : random.nextInt(16);
                    w[k / 16] |= weight << k % 16 * 4;
                }
                if (random.nextInt(oddness) == 0) {
                    w[random.nextInt(4)] = ODD_WORDS[random.nextInt(ODD_WORDS.length)];
                }
                Due.due(where + "sheet", court.sheet(hands, w[0], w[1], w[2], w[3]),
                        model.sheet(hands, w[0], w[1], w[2], w[3]));
                break;
            case 2:
                int tons = some(1, random.nextBoolean() ? 5000 : 20);
                int came = some(0, things - 1);
                int left = some(0, things - 1);
                int claim = some(0, random.nextBoolean() ? 5000 : 300);
                int owner = some(0, 100);
                int master = some(0, Math.max(1, 100 - Math.max(0, Math.min(100, owner))));
                Due.due(where + "ship", court.ship(tons, came, left, claim, owner, master),
                        model.ship(tons, came, left, claim, owner, master));
                break;
            default:
                stepJudge(where);
                break;
        }
    }

    private void stepJudge(String where) {
        int dice = random.nextInt(6);
        if (dice == 0) {
            int known = random.nextBoolean() ? 5000 : someDay();
            int day = random.nextBoolean() ? 5000 : someDay();
            Due.due(where + "judge", court.judge(known, day), model.judge(known, day));
            whole(where);
        } else if (dice == 1) {
            int what = some(0, 5);
            Due.due(where + "judged", court.judged(what), model.judged(what));
        } else if (dice == 2) {
            int k = some(0, 10);
            Due.due(where + "like", court.like(k), model.like(k));
        } else if (dice < 5) {
            int ship = some(0, 7);
            int what = some(0, 6);
            Due.due(where + "share", court.share(ship, what), model.share(ship, what));
        } else {
            int ship = some(0, 7);
            int k = some(0, 59);
            Due.due(where + "hand", court.hand(ship, k), model.hand(ship, k));
        }
    }

    /** Everything of a judgement; a judgement read whole goes beyond 512 calls, which changes nothing. */
    private void whole(String where) {
        for (int what = 0; what < 6; what++) {
            Due.due(where + "judged " + what, court.judged(what), model.judged(what));
        }
        for (int k = 0; k < 41; k++) {
            Due.due(where + "like " + k, court.like(k), model.like(k));
        }
        for (int ship = 0; ship < 9; ship++) {
            for (int what = 0; what < 7; what++) {
                Due.due(where + "share " + ship + " " + what, court.share(ship, what), model.share(ship, what));
            }
            for (int k = 0; k < 61; k++) {
                Due.due(where + "hand " + ship + " " + k, court.hand(ship, k), model.hand(ship, k));
            }
        }
    }
}
