import java.util.Arrays;

/**
 * A salvage court: what the logs tell of hours, what was saved and what it was worth, earlier
 * cases and laws, and the sum parted among ships, owners, masters and hands.
 *
 * <p>Answers that the document calls "none" are NONE, or NO_SPAN where NONE could be a span.
 */
public final class SalvageCourt {
    public static final int NONE = -1;

    private static final int NO_SPAN = -2147483648;
    private static final int LAST_DAY = 5000;
    private static final int THINGS = 16;
    private static final int LOGS = 6;
    private static final int FIRST_TRUST = 5;
    private static final int MOST_TRUST = 9;
    private static final int MOST_HOURS = 10000;
    private static final int MOST_SAYINGS = 40;
    private static final int GOODS = 10;
    private static final int MOST_COINS = 1000000;
    private static final int MOST_VALUES = 60;
    private static final int MARKS = 5;
    private static final int MOST_MARKS = 99999;
    private static final int MOST_CASES = 40;
    private static final int THOUSAND = 1000;
    private static final int MOST_LIVES = 99;
    private static final int MOST_LAWS = 6;
    private static final int MOST_BYTES = 300;
    private static final int FED_BYTES = 20;
    private static final int MOST_SHIPS = 8;
    private static final int MOST_TONS = 5000;
    private static final int HUNDRED = 100;
    private static final int MOST_HANDS = 60;
    private static final int MOST_HAND_WEIGHT = 9;
    private static final int HANDS_IN_LONG = 16;
    private static final int LATE_DAYS = 30;

    private final Tale tale = new Tale();
    private final Goods goods = new Goods();
    private final Cases cases = new Cases();
    private final Tape tape = new Tape();
    private final Law[] laws = new Law[MOST_LAWS];
    private final Times lawTimes = new Times(MOST_LAWS);
    private final Crew sheet = new Crew();
    private final Ship[] ships = new Ship[MOST_SHIPS];
    private final Judgement latest = new Judgement();
    private int today;
    private int suitMarks;
    private int suitLives;
    private int lawCount;
    private int shipCount;

    public SalvageCourt() {
        for (int i = 0; i < MOST_LAWS; i++) {
            laws[i] = new Law();
        }
        for (int i = 0; i < MOST_SHIPS; i++) {
            ships[i] = new Ship();
        }
    }

    public boolean clock(int day) {
        if (!isWithin(day, today, LAST_DAY)) {
            return false;
        }
        today = day;
        return true;
    }

    public int trust(int log, int v) {
        if (!isWithin(log, 0, LOGS - 1) || !isWithin(v, 0, MOST_TRUST)) {
            return NONE;
        }
        return tale.setTrust(log, v);
    }

    public int says(int log, int a, int b, int low, int high) {
        boolean known = isWithin(log, 0, LOGS - 1) && isThing(a) && isThing(b) && a != b;
        boolean hours = low <= high && low >= -MOST_HOURS && high <= MOST_HOURS;
        if (!known || !hours) {
            return NONE;
        }
        return tale.add(log, a, b, low, high);
    }

    public int believed(int saying) {
        if (!tale.has(saying)) {
            return NONE;
        }
        return tale.believes(saying) ? 1 : 0;
    }

    public int spans(int a, int b, int what) {
        if (!isThing(a) || !isThing(b) || !isWithin(what, 0, 1)) {
            return NO_SPAN;
        }
        return what == 0 ? tale.leastSpan(a, b) : tale.greatestSpan(a, b);
    }

    public int quarrel() {
        return tale.quarrelSize();
    }

    public int quarrels(int k) {
        return tale.quarrelling(k);
    }

    public int value(int good, int coins, int repairs, int day) {
        boolean sums = isWithin(coins, 0, MOST_COINS) && isWithin(repairs, 0, MOST_COINS);
        if (!isGood(good) || !sums || !isDay(day)) {
            return NONE;
        }
        return goods.add(good, Math.max(0, coins - repairs), day, today);
    }

    public int earlier(int marks, int award, int day) {
        if (!isWithin(marks, 0, MOST_MARKS) || !isWithin(award, 0, THOUSAND) || !isDay(day)) {
            return NONE;
        }
        return cases.add(marks, award, day, today);
    }

    public boolean overrule(int k, int day) {
        return isDay(day) && cases.setOverruled(k, day, today);
    }

    public boolean suit(int marks, int lives) {
        if (!isWithin(marks, 0, MOST_MARKS) || !isWithin(lives, 0, MOST_LIVES)) {
            return false;
        }
        suitMarks = marks;
        suitLives = lives;
        return true;
    }

    public int feed(int a, int b, int c, int d, int e) {
        if (tape.length > MOST_BYTES - FED_BYTES) {
            return NONE;
        }
        tape.append(a);
        tape.append(b);
        tape.append(c);
        tape.append(d);
        tape.append(e);
        return tape.length;
    }

    public int end(int n) {
        if (!isWithin(n, 0, tape.length)) {
            return NONE;
        }
        tape.length = n;
        return n;
    }

    public int law(int day) {
        if (lawCount >= MOST_LAWS || !isDay(day)) {
            return NONE;
        }
        int fault = tape.readInto(laws[lawCount]);
        tape.length = 0;
        if (fault != 0) {
            return -2 - fault;
        }
        lawTimes.set(lawCount, day, today);
        lawCount++;
        return lawCount - 1;
    }

    public boolean sheet(int hands, long a, long b, long c, long d) {
        if (!isWithin(hands, 1, MOST_HANDS)) {
            return false;
        }
        // All weights are looked at before one is taken, so that a wrong sheet changes nothing.
        for (int k = 0; k < hands; k++) {
            if (!isWithin(handWeight(k, a, b, c, d), 1, MOST_HAND_WEIGHT)) {
                return false;
            }
        }
        sheet.clear();
        for (int k = 0; k < hands; k++) {
            sheet.add(handWeight(k, a, b, c, d));
        }
        return true;
    }

    public int ship(int tons, int came, int left, int claim, int owner, int master) {
        if (shipCount >= MOST_SHIPS || sheet.hands == 0) {
            return NONE;
        }
        boolean sailed = isWithin(tons, 1, MOST_TONS) && isThing(came) && isThing(left);
        boolean articles = isWithin(owner, 0, HUNDRED) && isWithin(master, 0, HUNDRED - owner);
        if (!sailed || !articles || !isDay(claim)) {
            return NONE;
        }
        Ship next = ships[shipCount];
        next.tons = tons;
        next.came = came;
        next.left = left;
        next.claim = claim;
        next.owner = owner;
        next.master = master;
        next.crew.copy(sheet);
        shipCount++;
        return shipCount - 1;
    }

    public int judge(int known, int day) {
        if (!isDay(known) || !isDay(day)) {
            return NONE;
        }
        int number = lawTimes.latestOf(lawCount, known, day);
        if (number < 0) {
            return 1;
        }
        Law law = laws[number];
        latest.law = number;
        latest.likeCount = cases.findLike(law, suitMarks, known, day, latest.likes);
        cases.sortAwards(latest.likes, latest.likeCount, latest.awards);
        latest.rate = law.rateOf(latest.awards, latest.likeCount, suitLives);
        latest.saved = goods.worthOfAll(known, day);
        latest.weighShips(ships, shipCount, tale);
        latest.partAmongShips();
        latest.settle(ships, law);
        return 0;
    }

    public long judged(int what) {
        if (latest.law < 0) {
            return NONE;
        }
        switch (what) {
            case 0:
                return latest.law;
            case 1:
                return latest.likeCount;
            case 2:
                return latest.rate;
            case 3:
                return latest.saved;
            case 4:
                return latest.given;
            case 5:
                return latest.goesBack;
            default:
                return NONE;
        }
    }

    public int like(int k) {
        return isWithin(k, 0, latest.likeCount - 1) ? latest.likes[k] : NONE;
    }

    public long share(int ship, int what) {
        if (!isWithin(ship, 0, latest.shipCount - 1)) {
            return NONE;
        }
        Part part = latest.parts[ship];
        switch (what) {
            case 0:
                return part.hours;
            case 1:
                return part.weight;
            case 2:
                return part.coins;
            case 3:
                return part.owner;
            case 4:
                return part.master;
            case 5:
                return part.crew;
            case 6:
                return part.lost;
            default:
                return NONE;
        }
    }

    public long hand(int ship, int k) {
        if (!isWithin(ship, 0, latest.shipCount - 1)) {
            return NONE;
        }
        Part part = latest.parts[ship];
        return isWithin(k, 0, part.hands - 1) ? part.handCoins[k] : NONE;
    }

    public int saved(int good, int known, int day) {
        if (!isGood(good) || !isDay(known) || !isDay(day)) {
            return NONE;
        }
        return goods.worthOf(good, known, day);
    }

    public int count(int what) {
        switch (what) {
            case 0:
                return today;
            case 1:
                return tale.told;
            case 2:
                return tale.howManyBelieved();
            case 3:
                return goods.told;
            case 4:
                return cases.told;
            case 5:
                return lawCount;
            case 6:
                return shipCount;
            case 7:
                return tape.length;
            default:
                return NONE;
        }
    }

    private static boolean isWithin(int number, int least, int greatest) {
        return number >= least && number <= greatest;
    }

    private static boolean isDay(int day) {
        return isWithin(day, 0, LAST_DAY);
    }

    private static boolean isThing(int thing) {
        return isWithin(thing, 0, THINGS - 1);
    }

    private static boolean isGood(int good) {
        return isWithin(good, 0, GOODS - 1);
    }

    private static int handWeight(int k, long a, long b, long c, long d) {
        int quarter = k / HANDS_IN_LONG;
        long word = quarter == 0 ? a : quarter == 1 ? b : quarter == 2 ? c : d;
        return (int) (word >>> (4 * (k % HANDS_IN_LONG))) & 15;
    }

    /** The days from which rows are so, and those from which that is known. */
    private static final class Times {
        // Behind every day that can be asked for, so that a row not yet set never holds.
        private static final int NEVER = LAST_DAY + 1;

        private final int[] since;
        private final int[] knownSince;

        Times(int rows) {
            since = new int[rows];
            knownSince = new int[rows];
            Arrays.fill(since, NEVER);
            Arrays.fill(knownSince, NEVER);
        }

        void set(int row, int day, int today) {
            since[row] = day;
            knownSince[row] = today;
        }

        boolean isSet(int row) {
            return since[row] != NEVER;
        }

        boolean holds(int row, int known, int day) {
            return knownSince[row] <= known && since[row] <= day;
        }

        /** Of two rows that hold, the earlier told first: whether the later told one goes ahead. */
        boolean supersedes(int later, int earlier) {
            return since[later] >= since[earlier];
        }

        int latestOf(int rows, int known, int day) {
            int found = NONE;
            for (int i = 0; i < rows && i < since.length; i++) {
                if (holds(i, known, day) && (found < 0 || supersedes(i, found))) {
                    found = i;
                }
            }
            return found;
        }
    }

    /** The tightest bounds between the hours of all things, kept closed under going through others. */
    private static final class Bounds {
        // Greater than every bound, so that comparing with it needs no case of its own.
        private static final int OPEN = 2147483647;

        // At a * THINGS + b: the greatest that b's hour less a's can be.
        private final int[] most = new int[THINGS * THINGS];

        void clear() {
            Arrays.fill(most, OPEN);
            for (int i = 0; i < THINGS; i++) {
                most[i * THINGS + i] = 0;
            }
        }

        int greatest(int a, int b) {
            int bound = most[a * THINGS + b];
            return bound == OPEN ? NO_SPAN : bound;
        }

        int least(int a, int b) {
            int bound = most[b * THINGS + a];
            return bound == OPEN ? NO_SPAN : -bound;
        }

        /** Narrows to b's hour being low to high behind a's, if that can be; else nothing changes. */
        boolean narrow(int a, int b, int low, int high) {
            // Every whole number between the two bounds is taken by some hours, so that meeting
            // them is enough; OPEN negated is below every high.
            if (low > most[a * THINGS + b] || high < -most[b * THINGS + a]) {
                return false;
            }
            limit(a, b, high);
            limit(b, a, -low);
            return true;
        }

        /** Any way from x to y may now go over a and b. */
        private void limit(int a, int b, int bound) {
            if (bound >= most[a * THINGS + b]) {
                return;
            }
            for (int x = 0; x < THINGS; x++) {
                int head = most[x * THINGS + a];
                for (int y = 0; y < THINGS && head != OPEN; y++) {
                    int tail = most[b * THINGS + y];
                    if (tail != OPEN && head + bound + tail < most[x * THINGS + y]) {
                        most[x * THINGS + y] = head + bound + tail;
                    }
                }
            }
        }
    }

    /** The sayings of the logs, which of them are believed, and those that quarrel. */
    private static final class Tale {
        private final int[] trusts = new int[LOGS];
        private final int[] log = new int[MOST_SAYINGS];
        private final int[] from = new int[MOST_SAYINGS];
        private final int[] to = new int[MOST_SAYINGS];
        private final int[] low = new int[MOST_SAYINGS];
        private final int[] high = new int[MOST_SAYINGS];
        private int told;
        private final Bounds believedBounds = new Bounds();
        private final boolean[] isBelieved = new boolean[MOST_SAYINGS];
        private int believedCount;
        private boolean beliefStands;
        private final Bounds trialBounds = new Bounds();
        private final boolean[] stays = new boolean[MOST_SAYINGS];
        private int staying;
        private boolean quarrelStands;

        Tale() {
            Arrays.fill(trusts, FIRST_TRUST);
        }

        int setTrust(int ofLog, int v) {
            int was = trusts[ofLog];
            trusts[ofLog] = v;
            beliefStands = beliefStands && was == v;
            return was;
        }

        int add(int byLog, int a, int b, int least, int greatest) {
            if (told >= MOST_SAYINGS) {
                return NONE;
            }
            log[told] = byLog;
            from[told] = a;
            to[told] = b;
            low[told] = least;
            high[told] = greatest;
            told++;
            beliefStands = false;
            quarrelStands = false;
            return told - 1;
        }

        boolean has(int saying) {
            return isWithin(saying, 0, told - 1);
        }

        boolean believes(int saying) {
            settleBelief();
            return isBelieved[saying];
        }

        int howManyBelieved() {
            settleBelief();
            return believedCount;
        }

        int leastSpan(int a, int b) {
            settleBelief();
            return believedBounds.least(a, b);
        }

        int greatestSpan(int a, int b) {
            settleBelief();
            return believedBounds.greatest(a, b);
        }

        int quarrelSize() {
            settleQuarrel();
            return staying;
        }

        int quarrelling(int k) {
            settleQuarrel();
            int passed = 0;
            for (int i = 0; i < told; i++) {
                if (stays[i]) {
                    if (passed == k) {
                        return i;
                    }
                    passed++;
                }
            }
            return NONE;
        }

        private void settleBelief() {
            if (beliefStands) {
                return;
            }
            believedBounds.clear();
            believedCount = 0;
            for (int trust = MOST_TRUST; trust >= 0; trust--) {
                for (int i = 0; i < told; i++) {
                    if (trusts[log[i]] == trust) {
                        isBelieved[i] = takes(believedBounds, i);
                        believedCount += isBelieved[i] ? 1 : 0;
                    }
                }
            }
            beliefStands = true;
        }

        /**
         * When the document's going down comes to a saying, those below it are all still there: it
         * stays just if they and those staying above can be true together, but not with it. So the
         * next one staying is the first that breaks those below it and those staying.
         */
        private void settleQuarrel() {
            if (quarrelStands) {
                return;
            }
            for (int i = 0; i < told; i++) {
                stays[i] = false;
            }
            staying = 0;
            int next = firstToBreak(told);
            for (int round = 0; round < MOST_SAYINGS && next >= 0; round++) {
                stays[next] = true;
                staying++;
                next = firstToBreak(next);
            }
            quarrelStands = true;
        }

        /** NONE if those staying break by themselves, or nothing breaks. */
        private int firstToBreak(int below) {
            trialBounds.clear();
            for (int i = below; i < told; i++) {
                if (stays[i] && !takes(trialBounds, i)) {
                    return NONE;
                }
            }
            for (int i = 0; i < below; i++) {
                if (!takes(trialBounds, i)) {
                    return i;
                }
            }
            return NONE;
        }

        private boolean takes(Bounds bounds, int i) {
            return bounds.narrow(from[i], to[i], low[i], high[i]);
        }
    }

    /** What was told of the worth of goods saved. */
    private static final class Goods {
        private final int[] goodOf = new int[MOST_VALUES];
        private final int[] worth = new int[MOST_VALUES];
        private final Times times = new Times(MOST_VALUES);
        private int told;

        int add(int good, int coins, int day, int today) {
            if (told >= MOST_VALUES) {
                return NONE;
            }
            goodOf[told] = good;
            worth[told] = coins;
            times.set(told, day, today);
            told++;
            return told;
        }

        int worthOf(int good, int known, int day) {
            int found = NONE;
            for (int i = 0; i < told; i++) {
                boolean counts = goodOf[i] == good && times.holds(i, known, day);
                if (counts && (found < 0 || times.supersedes(i, found))) {
                    found = i;
                }
            }
            return found < 0 ? 0 : worth[found];
        }

        long worthOfAll(int known, int day) {
            long sum = 0;
            for (int good = 0; good < GOODS; good++) {
                sum += worthOf(good, known, day);
            }
            return sum;
        }
    }

    /** The earlier cases, with marks as five digits. */
    private static final class Cases {
        private final int[] marks = new int[MOST_CASES];
        private final int[] awards = new int[MOST_CASES];
        private final Times times = new Times(MOST_CASES);
        private final Times overruled = new Times(MOST_CASES);
        private int told;

        int add(int caseMarks, int award, int day, int today) {
            if (told >= MOST_CASES) {
                return NONE;
            }
            marks[told] = caseMarks;
            awards[told] = award;
            times.set(told, day, today);
            told++;
            return told - 1;
        }

        boolean setOverruled(int k, int day, int today) {
            if (!isWithin(k, 0, told - 1) || overruled.isSet(k)) {
                return false;
            }
            overruled.set(k, day, today);
            return true;
        }

        /** Writes the numbers of the cases like the suit into the row; how many they are. */
        int findLike(Law law, int suitMarks, int known, int day, int[] row) {
            int found = 0;
            for (int k = 0; k < told && found < row.length; k++) {
                boolean stands = times.holds(k, known, day) && !overruled.holds(k, known, day);
                if (stands && law.distance(marks[k], suitMarks) <= law.like) {
                    row[found] = k;
                    found++;
                }
            }
            return found;
        }

        void sortAwards(int[] numbers, int count, int[] row) {
            for (int i = 0; i < count && i < row.length; i++) {
                int award = awards[numbers[i]];
                int place = i;
                while (place > 0 && row[place - 1] > award) {
                    row[place] = row[place - 1];
                    place--;
                }
                row[place] = award;
            }
        }
    }

    /** What a law's clauses say. */
    private static final class Law {
        private static final int LEAST = 0;
        private static final int MIDDLE = 1;
        private static final int GREATEST = 2;
        private static final int ELSE_WITHOUT = 100;

        private final int[] weights = new int[MARKS];
        private int like;
        private int give;
        private int otherwise;
        private int life;
        private int late;
        private int after;

        void clear() {
            Arrays.fill(weights, 0);
            like = 0;
            give = LEAST;
            otherwise = ELSE_WITHOUT;
            life = 0;
            late = 0;
            after = 0;
        }

        int distance(int someMarks, int otherMarks) {
            int some = someMarks;
            int other = otherMarks;
            int sum = 0;
            for (int mark = MARKS - 1; mark >= 0; mark--) {
                sum += weights[mark] * Math.abs(some % 10 - other % 10);
                some /= 10;
                other /= 10;
            }
            return sum;
        }

        int rateOf(int[] sortedAwards, int count, int lives) {
            int rate = count <= 0 ? otherwise : givenOf(sortedAwards, count);
            return Math.min(THOUSAND, rate + life * lives);
        }

        private int givenOf(int[] sortedAwards, int count) {
            switch (give) {
                case LEAST:
                    return sortedAwards[0];
                case MIDDLE:
                    return sortedAwards[(count - 1) / 2];
                case GREATEST:
                    return sortedAwards[count - 1];
                default:
                    return mean(sortedAwards, count);
            }
        }

        private static int mean(int[] numbers, int count) {
            int sum = 0;
            for (int i = 0; i < count; i++) {
                sum += numbers[i];
            }
            return count > 0 ? sum / count : 0;
        }
    }

    /** The tape, and the reading of a law off it: the first fault met is the one that counts. */
    private static final class Tape {
        // A blank behind each word marks where it ends; a word's number is its place in the row.
        private static final String CLAUSES = "weigh like give else life late ";
        private static final String MARK_NAMES = "danger skill labour weather worth ";
        private static final String GIFTS = "least middle greatest mean ";
        private static final String AFTER = "after ";
        private static final int WEIGH = 0;
        private static final int LIKE = 1;
        private static final int GIVE = 2;
        private static final int ELSE = 3;
        private static final int LIFE = 4;
        private static final int LATE = 5;
        private static final int CLAUSE_KINDS = 6;
        private static final int MOST_DIGITS = 4;

        private final byte[] bytes = new byte[MOST_BYTES];
        private int length;
        private int place;
        private int wordPlace;
        private int told;
        private int fault;

        void append(int word) {
            for (int shift = 24; shift >= 0 && length < MOST_BYTES; shift -= 8) {
                bytes[length] = (byte) (word >>> shift);
                length++;
            }
        }

        /** The fault, 0 without one. */
        int readInto(Law law) {
            law.clear();
            place = 0;
            told = 0;
            fault = 0;
            skipBlanks();
            // A clause without a fault takes a byte at least, so there are no more than bytes.
            for (int i = 0; i < MOST_BYTES && place < length && fault == 0; i++) {
                readClause(law);
                skipBlanks();
            }
            if ((told & (1 << GIVE)) == 0) {
                refuse(4, length);
            }
            return fault;
        }

        private void readClause(Law law) {
            int clause = readWord(CLAUSES);
            if (clause != WEIGH) {
                tellOnce(clause);
            }
            switch (clause) {
                case WEIGH:
                    readWeight(law);
                    break;
                case LIKE:
                    law.like = readNumber(9999);
                    break;
                case GIVE:
                    law.give = readWord(GIFTS);
                    break;
                case ELSE:
                    law.otherwise = readNumber(THOUSAND);
                    break;
                case LIFE:
                    law.life = readNumber(100);
                    break;
                case LATE:
                    law.late = readNumber(THOUSAND);
                    readWord(AFTER);
                    law.after = readNumber(LAST_DAY);
                    break;
                default:
                    break;
            }
            readSemicolon();
        }

        private void readWeight(Law law) {
            int mark = readWord(MARK_NAMES);
            if (mark < 0) {
                return;
            }
            tellOnce(CLAUSE_KINDS + mark);
            law.weights[mark] = readNumber(99);
        }

        /** Of the word read last. */
        private void tellOnce(int kind) {
            if (kind < 0) {
                return;
            }
            if ((told & (1 << kind)) != 0) {
                refuse(3, wordPlace);
            }
            told |= 1 << kind;
        }

        private int readWord(String words) {
            skipBlanks();
            wordPlace = place;
            while (place < length && isBetween(bytes[place], 'a', 'z')) {
                place++;
            }
            int number = numberOfWord(words);
            if (number < 0) {
                refuse(1, wordPlace);
            }
            return number;
        }

        private int numberOfWord(String words) {
            int number = 0;
            int at = wordPlace;
            boolean same = true;
            for (int i = 0; i < words.length(); i++) {
                char sign = words.charAt(i);
                if (sign != ' ') {
                    same = same && at < place && bytes[at] == sign;
                    at++;
                } else if (same && at == place) {
                    return number;
                } else {
                    number++;
                    at = wordPlace;
                    same = true;
                }
            }
            return NONE;
        }

        private int readNumber(int greatest) {
            skipBlanks();
            int start = place;
            int number = 0;
            while (place < length && isBetween(bytes[place], '0', '9')) {
                // Digits too many make a fault whatever they are; left out, they can't run over.
                if (place - start < MOST_DIGITS) {
                    number = number * 10 + bytes[place] - '0';
                }
                place++;
            }
            if (place == start) {
                refuse(1, start);
            } else if (place - start > MOST_DIGITS || number > greatest) {
                refuse(2, start);
            }
            return number;
        }

        private void readSemicolon() {
            skipBlanks();
            if (place < length && bytes[place] == ';') {
                place++;
            } else {
                refuse(1, place);
            }
        }

        private void skipBlanks() {
            while (place < length && bytes[place] == ' ') {
                place++;
            }
        }

        private void refuse(int kind, int where) {
            if (fault == 0) {
                fault = kind + 4 * where;
            }
        }

        private static boolean isBetween(byte sign, char first, char last) {
            return sign >= first && sign <= last;
        }
    }

    /** The hands of a ship, by their weights. */
    private static final class Crew {
        private final int[] weights = new int[MOST_HANDS];
        private int hands;
        private int allWeights;

        void clear() {
            hands = 0;
            allWeights = 0;
        }

        void add(int weight) {
            if (hands < MOST_HANDS) {
                weights[hands] = weight;
                hands++;
                allWeights += weight;
            }
        }

        void copy(Crew other) {
            clear();
            for (int k = 0; k < other.hands; k++) {
                add(other.weights[k]);
            }
        }
    }

    /** A ship that saved, as it was told. */
    private static final class Ship {
        private final Crew crew = new Crew();
        private int tons;
        private int came;
        private int left;
        private int claim;
        private int owner;
        private int master;
    }

    /** What a judgement found and gave for one ship. */
    private static final class Part {
        private final long[] handCoins = new long[MOST_HANDS];
        private long hours;
        private long weight;
        private long rest;
        private long coins;
        private long lost;
        private long owner;
        private long master;
        private long crew;
        private int hands;

        void loseLate(int claim, Law law) {
            long periods = Math.max(0, claim - law.after) / LATE_DAYS;
            lost = coins * Math.min(THOUSAND, periods * law.late) / THOUSAND;
            coins -= lost;
        }

        void pay(Ship ship) {
            owner = coins * ship.owner / HUNDRED;
            master = coins * ship.master / HUNDRED;
            crew = coins - owner - master;
            payHands(ship.crew);
        }

        private void payHands(Crew paid) {
            hands = paid.hands;
            if (paid.allWeights <= 0) {
                return;
            }
            long over = crew;
            for (int k = 0; k < hands; k++) {
                handCoins[k] = crew * paid.weights[k] / paid.allWeights;
                over -= handCoins[k];
            }
            for (int k = 0; k < hands && k < over; k++) {
                handCoins[k]++;
            }
        }
    }

    /** The latest judgement, held as it was then whatever is told later. */
    private static final class Judgement {
        private final int[] likes = new int[MOST_CASES];
        private final int[] awards = new int[MOST_CASES];
        private final Part[] parts = new Part[MOST_SHIPS];
        private int law = NONE;
        private int likeCount;
        private int rate;
        private long saved;
        private long given;
        private long goesBack;
        private int shipCount;
        private long allWeights;

        Judgement() {
            for (int i = 0; i < MOST_SHIPS; i++) {
                parts[i] = new Part();
            }
        }

        void weighShips(Ship[] ships, int count, Tale tale) {
            shipCount = count;
            allWeights = 0;
            for (int i = 0; i < shipCount; i++) {
                // NO_SPAN is below 0, too.
                parts[i].hours = Math.max(0, tale.leastSpan(ships[i].came, ships[i].left));
                parts[i].weight = ships[i].tons * parts[i].hours;
                allWeights += parts[i].weight;
            }
        }

        void partAmongShips() {
            given = allWeights > 0 ? saved * rate / THOUSAND : 0;
            long over = given;
            for (int i = 0; i < shipCount; i++) {
                Part part = parts[i];
                part.coins = allWeights > 0 ? given * part.weight / allWeights : 0;
                part.rest = given * part.weight - part.coins * allWeights;
                over -= part.coins;
            }
            for (int coin = 0; coin < shipCount && coin < over; coin++) {
                Part next = parts[greatestRest()];
                next.coins++;
                // Below every rest, so that no ship has two of them.
                next.rest = NONE;
            }
        }

        private int greatestRest() {
            int found = 0;
            for (int i = 1; i < shipCount; i++) {
                if (parts[i].rest > parts[found].rest) {
                    found = i;
                }
            }
            return found;
        }

        void settle(Ship[] ships, Law by) {
            goesBack = 0;
            for (int i = 0; i < shipCount; i++) {
                parts[i].loseLate(ships[i].claim, by);
                goesBack += parts[i].lost;
                parts[i].pay(ships[i]);
            }
        }
    }
}
