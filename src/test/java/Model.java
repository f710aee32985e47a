import java.util.ArrayList;
import java.util.Arrays;
import java.util.Collections;
import java.util.Comparator;
import java.util.List;
import java.util.TreeMap;
import java.util.regex.Matcher;
import java.util.regex.Pattern;

/**
 * The document's words once more, as literally as can be and without regard to speed: what the
 * random runs of ModelTest hold the class against. Hours, spans, quarrels and texts are reckoned in
 * other ways than the class does; but it reads the document as the class does (NOTES.md), so it
 * can't show that a reading is wrong.
 */
final class Model {
    static final int NO_SPAN = Integer.MIN_VALUE;
    static final List<String> MARKS = List.of("danger", "skill", "labour", "weather", "worth");

    record Saying(int log, int a, int b, long low, long high) {
    }

    record Value(int good, int coins, int repairs, int day, int known) {
    }

    record Told(int marks, int award, int day, int known) {
    }

    record Fixed(TreeMap<String, int[]> clauses, String give, int day, int known) {
        int number(String clause, int at, int without) {
            int[] numbers = clauses.get(clause);
            return numbers == null ? without : numbers[at];
        }
    }

    record Vessel(int tons, int came, int left, int claim, int owner, int master, int[] weights) {
    }

    int today = 0;
    final int[] trusts = {5, 5, 5, 5, 5, 5};
    final List<Saying> sayings = new ArrayList<>();
    final List<Value> values = new ArrayList<>();
    final List<Told> cases = new ArrayList<>();
    final int[][] overruled = new int[40][];
    int suitMarks = 0;
    int lives = 0;
    String tape = "";
    final List<Fixed> laws = new ArrayList<>();
    int[] sheet = null;
    final List<Vessel> ships = new ArrayList<>();

    boolean judgedOnce = false;
    long[] found = new long[6];
    List<Integer> likes = new ArrayList<>();
    List<long[]> shares = new ArrayList<>();
    List<long[]> hands = new ArrayList<>();

    static boolean in(long x, long least, long most) {
        return x >= least && x <= most;
    }

    boolean clock(int day) {
        if (day < today || day > 5000) {
            return false;
        }
        today = day;
        return true;
    }

    int trust(int log, int v) {
        if (!in(log, 0, 5) || !in(v, 0, 9)) {
            return -1;
        }
        int was = trusts[log];
        trusts[log] = v;
        return was;
    }

    int says(int log, int a, int b, int low, int high) {
        if (sayings.size() == 40 || !in(log, 0, 5) || !in(a, 0, 15) || !in(b, 0, 15) || a == b
                || !in(low, -10000, 10000) || !in(high, -10000, 10000) || low > high) {
            return -1;
        }
        sayings.add(new Saying(log, a, b, low, high));
        return sayings.size() - 1;
    }

    /** Hours are looked for by setting them right again and again, from 0 each. */
    static boolean together(List<Saying> some) {
        long[] hour = new long[16];
        for (int round = 0; round < 20; round++) {
            boolean moved = false;
            for (Saying s : some) {
                if (hour[s.b] > hour[s.a] + s.high) {
                    hour[s.b] = hour[s.a] + s.high;
                    moved = true;
                }
                if (hour[s.a] > hour[s.b] - s.low) {
                    hour[s.a] = hour[s.b] - s.low;
                    moved = true;
                }
            }
            if (!moved) {
                return true;
            }
        }
        return false;
    }

    List<Integer> believedOnes() {
        List<Integer> order = new ArrayList<>();
        for (int i = 0; i < sayings.size(); i++) {
            order.add(i);
        }
        order.sort(Comparator.comparingInt((Integer i) -> -trusts[sayings.get(i).log]));
        List<Integer> numbers = new ArrayList<>();
        List<Saying> some = new ArrayList<>();
        for (int i : order) {
            some.add(sayings.get(i));
            if (together(some)) {
                numbers.add(i);
            } else {
                some.remove(some.size() - 1);
            }
        }
        return numbers;
    }

    int believed(int saying) {
        if (!in(saying, 0, sayings.size() - 1)) {
            return -1;
        }
        return believedOnes().contains(saying) ? 1 : 0;
    }

    /** Far off the greatest difference that 15 sayings in a row can make. */
    static final long FAR = 1000000;

    int spans(int a, int b, int what) {
        if (!in(a, 0, 15) || !in(b, 0, 15) || !in(what, 0, 1)) {
            return NO_SPAN;
        }
        if (a == b) {
            return 0;
        }
        List<Saying> some = new ArrayList<>();
        for (int i : believedOnes()) {
            some.add(sayings.get(i));
        }
        if (what == 1) {
            return greatest(some, a, b);
        }
        int back = greatest(some, b, a);
        return back == NO_SPAN ? NO_SPAN : -back;
    }

    static boolean reaches(List<Saying> some, int a, int b, long least) {
        List<Saying> more = new ArrayList<>(some);
        more.add(new Saying(0, a, b, least, 10 * FAR));
        return together(more);
    }

    static int greatest(List<Saying> some, int a, int b) {
        if (reaches(some, a, b, FAR)) {
            return NO_SPAN;
        }
        long can = -FAR;
        long cannot = FAR;
        while (cannot - can > 1) {
            long middle = Math.floorDiv(can + cannot, 2L);
            if (reaches(some, a, b, middle)) {
                can = middle;
            } else {
                cannot = middle;
            }
        }
        return (int) can;
    }

    List<Integer> quarrelOnes() {
        List<Integer> numbers = new ArrayList<>();
        if (together(sayings)) {
            return numbers;
        }
        for (int i = 0; i < sayings.size(); i++) {
            numbers.add(i);
        }
        for (int i = sayings.size() - 1; i >= 0; i--) {
            List<Integer> rest = new ArrayList<>(numbers);
            rest.remove(Integer.valueOf(i));
            List<Saying> some = new ArrayList<>();
            for (int k : rest) {
                some.add(sayings.get(k));
            }
            if (!together(some)) {
                numbers = rest;
            }
        }
        return numbers;
    }

    int quarrel() {
        return quarrelOnes().size();
    }

    int quarrels(int k) {
        List<Integer> ones = quarrelOnes();
        return in(k, 0, ones.size() - 1) ? ones.get(k) : -1;
    }

    int value(int good, int coins, int repairs, int day) {
        if (values.size() == 60 || !in(good, 0, 9) || !in(coins, 0, 1000000)
                || !in(repairs, 0, 1000000) || !in(day, 0, 5000)) {
            return -1;
        }
        values.add(new Value(good, coins, repairs, day, today));
        return values.size();
    }

    int earlier(int marks, int award, int day) {
        if (cases.size() == 40 || !in(marks, 0, 99999) || !in(award, 0, 1000) || !in(day, 0, 5000)) {
            return -1;
        }
        cases.add(new Told(marks, award, day, today));
        return cases.size() - 1;
    }

    boolean overrule(int k, int day) {
        if (!in(k, 0, cases.size() - 1) || !in(day, 0, 5000) || overruled[k] != null) {
            return false;
        }
        overruled[k] = new int[] {day, today};
        return true;
    }

    boolean suit(int marks, int saved) {
        if (!in(marks, 0, 99999) || !in(saved, 0, 99)) {
            return false;
        }
        suitMarks = marks;
        lives = saved;
        return true;
    }

    int feed(int... words) {
        if (tape.length() + 20 > 300) {
            return -1;
        }
        StringBuilder more = new StringBuilder(tape);
        for (int word : words) {
            more.append((char) (word >>> 24)).append((char) (word >> 16 & 255));
            more.append((char) (word >> 8 & 255)).append((char) (word & 255));
        }
        tape = more.toString();
        return tape.length();
    }

    int end(int n) {
        if (n < 0 || n > tape.length()) {
            return -1;
        }
        tape = tape.substring(0, n);
        return n;
    }

    int law(int day) {
        if (laws.size() == 6 || !in(day, 0, 5000)) {
            return -1;
        }
        Text text = new Text(tape);
        tape = "";
        int fault = text.fault();
        if (fault != 0) {
            return -2 - fault;
        }
        laws.add(new Fixed(text.clauses, text.give, day, today));
        return laws.size() - 1;
    }

    /** A law's text as signs: words, numbers, single others and an end, each with its place. */
    static final class Text {
        static final Pattern SIGN = Pattern.compile(" *([a-z]+|[0-9]+|[^ ]|\\z)", Pattern.DOTALL);
        final String text;
        final List<String> signs = new ArrayList<>();
        final List<Integer> places = new ArrayList<>();
        final TreeMap<String, int[]> clauses = new TreeMap<>();
        String give = null;
        int next = 0;

        Text(String text) {
            this.text = text;
            Matcher matcher = SIGN.matcher(text);
            while (matcher.find()) {
                signs.add(matcher.group(1));
                places.add(matcher.start(1));
            }
            signs.add("");
            places.add(text.length());
        }

        /** What may come: words told with bars, # a number up to the bound, ; itself. */
        int want(String words, int bound) {
            String sign = signs.get(next);
            int place = places.get(next);
            if (words.equals("#")) {
                if (!sign.matches("[0-9]+")) {
                    return 1 + 4 * place;
                }
                if (sign.length() > 4 || Integer.parseInt(sign) > bound) {
                    return 2 + 4 * place;
                }
            } else if (sign.isEmpty() || !Arrays.asList(words.split("\\|")).contains(sign)) {
                return 1 + 4 * place;
            }
            next++;
            return 0;
        }

        int fault() {
            while (!signs.get(next).isEmpty()) {
                int fault = clause();
                if (fault == 0) {
                    fault = want(";", 0);
                }
                if (fault != 0) {
                    return fault;
                }
            }
            return give == null ? 4 + 4 * text.length() : 0;
        }

        int clause() {
            int fault = want("weigh|like|give|else|life|late", 0);
            if (fault != 0) {
                return fault;
            }
            String name = signs.get(next - 1);
            if (name.equals("weigh")) {
                fault = want(String.join("|", MARKS), 0);
                name = signs.get(next - 1);
            }
            if (fault != 0) {
                return fault;
            }
            if (clauses.containsKey(name)) {
                return 3 + 4 * places.get(next - 1);
            }
            switch (name) {
                case "give":
                    clauses.put(name, new int[0]);
                    give = signs.get(next);
                    return want("least|middle|greatest|mean", 0);
                case "late":
                    fault = want("#", 1000);
                    fault = fault != 0 ? fault : want("after", 0);
                    fault = fault != 0 ? fault : want("#", 5000);
                    if (fault == 0) {
                        clauses.put(name, new int[] {Integer.parseInt(signs.get(next - 3)),
                                Integer.parseInt(signs.get(next - 1))});
                    }
                    return fault;
                default:
                    int bound = name.equals("like") ? 9999 : name.equals("else") ? 1000
                            : name.equals("life") ? 100 : 99;
                    fault = want("#", bound);
                    if (fault == 0) {
                        clauses.put(name, new int[] {Integer.parseInt(signs.get(next - 1))});
                    }
                    return fault;
            }
        }
    }

    boolean sheet(int count, long a, long b, long c, long d) {
        if (!in(count, 1, 60)) {
            return false;
        }
        long[] words = {a, b, c, d};
        int[] weights = new int[count];
        for (int k = 0; k < count; k++) {
            weights[k] = (int) (words[k / 16] >> k % 16 * 4 & 15);
            if (!in(weights[k], 1, 9)) {
                return false;
            }
        }
        sheet = weights;
        return true;
    }

    int ship(int tons, int came, int left, int claim, int owner, int master) {
        if (ships.size() == 8 || sheet == null || !in(tons, 1, 5000) || !in(came, 0, 15)
                || !in(left, 0, 15) || !in(claim, 0, 5000) || owner < 0 || master < 0
                || (long) owner + master > 100) {
            return -1;
        }
        ships.add(new Vessel(tons, came, left, claim, owner, master, sheet));
        return ships.size() - 1;
    }

    int judge(int known, int day) {
        if (!in(known, 0, 5000) || !in(day, 0, 5000)) {
            return -1;
        }
        int number = -1;
        for (int e = 0; e <= day; e++) {
            for (int i = 0; i < laws.size(); i++) {
                if (laws.get(i).day == e && laws.get(i).known <= known) {
                    number = i;
                }
            }
        }
        if (number < 0) {
            return 1;
        }
        Fixed law = laws.get(number);
        likes = likeOnes(law, known, day);
        long rate = rate(law);
        long all = 0;
        for (int good = 0; good < 10; good++) {
            all += saved(good, known, day);
        }
        found = new long[] {number, likes.size(), rate, all, 0, 0};
        judgedOnce = true;
        part(law, all, rate);
        return 0;
    }

    List<Integer> likeOnes(Fixed law, int known, int day) {
        List<Integer> ones = new ArrayList<>();
        String suit = String.format("%05d", suitMarks);
        for (int k = 0; k < cases.size(); k++) {
            Told told = cases.get(k);
            String marks = String.format("%05d", told.marks);
            int distance = 0;
            for (int m = 0; m < 5; m++) {
                distance += law.number(MARKS.get(m), 0, 0) * Math.abs(marks.charAt(m) - suit.charAt(m));
            }
            boolean gone = overruled[k] != null && overruled[k][0] <= day && overruled[k][1] <= known;
            if (told.day <= day && told.known <= known && !gone
                    && distance <= law.number("like", 0, 0)) {
                ones.add(k);
            }
        }
        return ones;
    }

    long rate(Fixed law) {
        List<Integer> awards = new ArrayList<>();
        int sum = 0;
        for (int k : likes) {
            awards.add(cases.get(k).award);
            sum += cases.get(k).award;
        }
        Collections.sort(awards);
        int n = awards.size();
        int rate = n == 0 ? law.number("else", 0, 100)
                : law.give.equals("least") ? awards.get(0)
                : law.give.equals("greatest") ? awards.get(n - 1)
                : law.give.equals("mean") ? sum / n
                : n % 2 == 0 ? awards.get(n / 2 - 1) : awards.get(n / 2);
        return Math.min(1000, rate + lives * law.number("life", 0, 0));
    }

    void part(Fixed law, long all, long rate) {
        int n = ships.size();
        long[] hours = new long[n];
        long weights = 0;
        for (int i = 0; i < n; i++) {
            int span = spans(ships.get(i).came, ships.get(i).left, 0);
            hours[i] = span == NO_SPAN || span < 0 ? 0 : span;
            weights += hours[i] * ships.get(i).tons;
        }
        long given = weights == 0 ? 0 : all * rate / 1000;
        long[] coins = new long[n];
        long[] rests = new long[n];
        List<Integer> order = new ArrayList<>();
        long over = given;
        for (int i = 0; i < n; i++) {
            order.add(i);
            long weight = hours[i] * ships.get(i).tons;
            coins[i] = weights == 0 ? 0 : given * weight / weights;
            rests[i] = weights == 0 ? 0 : given * weight % weights;
            over -= coins[i];
        }
        order.sort(Comparator.comparingLong((Integer i) -> -rests[i]));
        for (int i = 0; i < over; i++) {
            coins[order.get(i)]++;
        }
        found[4] = given;
        shares = new ArrayList<>();
        hands = new ArrayList<>();
        for (int i = 0; i < n; i++) {
            settle(ships.get(i), law, hours[i], coins[i]);
        }
    }

    void settle(Vessel ship, Fixed law, long hours, long coins) {
        int after = law.number("late", 1, 0);
        long thousandths = 0;
        for (int day = after + 30; day <= ship.claim; day += 30) {
            thousandths += law.number("late", 0, 0);
        }
        long lost = coins * Math.min(1000, thousandths) / 1000;
        found[5] += lost;
        long kept = coins - lost;
        long owner = kept * ship.owner / 100;
        long master = kept * ship.master / 100;
        long crew = kept - owner - master;
        shares.add(new long[] {hours, hours * ship.tons, kept, owner, master, crew, lost});
        int sum = Arrays.stream(ship.weights).sum();
        long[] paid = new long[ship.weights.length];
        long over = crew;
        for (int k = 0; k < paid.length; k++) {
            paid[k] = crew * ship.weights[k] / sum;
            over -= paid[k];
        }
        for (int k = 0; over > 0; k++, over--) {
            paid[k]++;
        }
        hands.add(paid);
    }

    long judged(int what) {
        return judgedOnce && in(what, 0, 5) ? found[what] : -1;
    }

    int like(int k) {
        return in(k, 0, likes.size() - 1) ? likes.get(k) : -1;
    }

    long share(int ship, int what) {
        return in(ship, 0, shares.size() - 1) && in(what, 0, 6) ? shares.get(ship)[what] : -1;
    }

    long hand(int ship, int k) {
        if (!in(ship, 0, hands.size() - 1) || !in(k, 0, hands.get(ship).length - 1)) {
            return -1;
        }
        return hands.get(ship)[k];
    }

    int saved(int good, int known, int day) {
        if (!in(good, 0, 9) || !in(known, 0, 5000) || !in(day, 0, 5000)) {
            return -1;
        }
        Value latest = null;
        for (Value v : values) {
            if (v.good == good && v.known <= known && v.day <= day
                    && (latest == null || v.day >= latest.day)) {
                latest = v;
            }
        }
        return latest == null ? 0 : Math.max(0, latest.coins - latest.repairs);
    }

    int count(int what) {
        switch (what) {
            case 0: return today;
            case 1: return sayings.size();
            case 2: return believedOnes().size();
            case 3: return values.size();
            case 4: return cases.size();
            case 5: return laws.size();
            case 6: return ships.size();
            case 7: return tape.length();
            default: return -1;
        }
    }
}
