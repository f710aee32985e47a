/**
 * Every argument that the document bounds: the last that is taken and the first that is refused, on
 * both sides, and the least and greatest int. After each refused call nothing has happened.
 */
final class EdgeTest {
    private static final int NO_SPAN = Integer.MIN_VALUE;
    private static final long NINES = 0x9999999999999999L;

    /** A call with one argument left open. */
    private interface Open {
        long call(SalvageCourt x, int argument);
    }

    /** Refused calls of the same answer, with one argument left open, on a court BUSY. */
    private static final class Edge {
        private final String name;
        private final long refused;
        private final Open call;

        Edge(String name, long refused, Open call) {
            this.name = name;
            this.refused = refused;
            this.call = call;
        }

        Edge takes(int argument, long due) {
            Due.due(name + " " + argument, call.call(Courts.BUSY.get(), argument), due);
            return this;
        }

        Edge refuses(int argument) {
            Twins.nothingHappens(name + " " + argument, Courts.BUSY, x -> call.call(x, argument), refused);
            return this;
        }

        /** Least and greatest with the answers due; what is beyond them is refused. */
        void within(int least, long dueLeast, int greatest, long dueGreatest) {
            takes(least, dueLeast).takes(greatest, dueGreatest);
            refuses(least - 1).refuses(greatest + 1);
            refuses(Integer.MIN_VALUE).refuses(Integer.MAX_VALUE);
        }
    }

    public static void main(String[] args) {
        clockAndTrust();
        sayings();
        hoursOfSayings();
        lookingAtTheTale();
        values();
        casesAndSuit();
        tape();
        sheets();
        ships();
        articles();
        judging();
        lookingAtTheJudgement();
        savedAndCount();
        Due.finish();
    }

    private static Edge edge(String name, long refused, Open call) {
        return new Edge(name, refused, call);
    }

    private static long truth(boolean answer) {
        return answer ? 1 : 0;
    }

    private static void clockAndTrust() {
        edge("P2 clock, day", 0, (x, v) -> truth(x.clock(v))).within(Courts.DAY, 1, 5000, 1);
        edge("P3 trust, log", -1, (x, v) -> x.trust(v, 3)).within(0, 5, 5, 8);
        edge("P3 trust, v", -1, (x, v) -> x.trust(2, v)).within(0, 1, 9, 1);
    }

    private static void sayings() {
        int next = Courts.SAYINGS;
        edge("P4 says, log", -1, (x, v) -> x.says(v, 0, 1, 0, 0)).within(0, next, 5, next);
        edge("P4 says, a", -1, (x, v) -> x.says(0, v, 7, 0, 0)).within(0, next, 15, next);
        edge("P4 says, b", -1, (x, v) -> x.says(0, 7, v, 0, 0)).within(0, next, 15, next);
        Edge alike = edge("P4 says, a and b", -1, (x, v) -> x.says(0, v, v, 0, 0));
        for (int thing = 0; thing < 16; thing++) {
            alike.refuses(thing);
        }
    }

    private static void hoursOfSayings() {
        int next = Courts.SAYINGS;
        edge("P4 says, low, high 10000", -1, (x, v) -> x.says(0, 0, 1, v, 10000))
                .within(-10000, next, 10000, next);
        edge("P4 says, high, low -10000", -1, (x, v) -> x.says(0, 0, 1, -10000, v))
                .within(-10000, next, 10000, next);
        edge("P4 says, low, high 5", -1, (x, v) -> x.says(0, 0, 1, v, 5)).within(-10000, next, 5, next);
        edge("P4 says, high, low 5", -1, (x, v) -> x.says(0, 0, 1, 5, v)).within(5, next, 10000, next);
        edge("P4 says, both", -1, (x, v) -> x.says(0, 0, 1, v, v)).within(-10000, next, 10000, next);
    }

    private static void lookingAtTheTale() {
        edge("P5 believed", -1, (x, v) -> x.believed(v)).takes(2, 0).within(0, 1, Courts.SAYINGS - 1, 1);
        edge("P6 spans, a", NO_SPAN, (x, v) -> x.spans(v, 7, 0)).within(0, 5, 15, -4);
        edge("P6 spans, b", NO_SPAN, (x, v) -> x.spans(7, v, 1)).within(0, -5, 15, 4);
        edge("P6 spans, what", NO_SPAN, (x, v) -> x.spans(0, 15, v)).within(0, 8, 1, 12);
        edge("P6 spans of 5 to itself, what", NO_SPAN, (x, v) -> x.spans(5, 5, v)).within(0, 0, 1, 0);
        edge("P6 spans of it to itself", NO_SPAN, (x, v) -> x.spans(v, v, 0)).within(0, 0, 15, 0);
        edge("P6 spans without", NO_SPAN, (x, v) -> x.spans(0, 1, v)).refuses(0).refuses(1);
        edge("P7 quarrel", -1, (x, v) -> x.quarrel()).takes(0, Courts.QUARRELLING);
        edge("P8 quarrels", -1, (x, v) -> x.quarrels(v)).within(0, 0, Courts.QUARRELLING - 1, 2);
    }

    private static void values() {
        int next = Courts.VALUES + 1;
        edge("P9 value, good", -1, (x, v) -> x.value(v, 5, 1, 3)).within(0, next, 9, next);
        edge("P9 value, coins", -1, (x, v) -> x.value(0, v, 1, 3)).within(0, next, 1000000, next);
        edge("P9 value, repairs", -1, (x, v) -> x.value(0, 5, v, 3)).within(0, next, 1000000, next);
        edge("P9 value, day", -1, (x, v) -> x.value(0, 5, 1, v)).within(0, next, 5000, next);
    }

    private static void casesAndSuit() {
        int next = Courts.CASES;
        edge("P10 earlier, marks", -1, (x, v) -> x.earlier(v, 5, 3)).within(0, next, 99999, next);
        edge("P10 earlier, award", -1, (x, v) -> x.earlier(7, v, 3)).within(0, next, 1000, next);
        edge("P10 earlier, day", -1, (x, v) -> x.earlier(7, 5, v)).within(0, next, 5000, next);
        edge("P11 overrule, k", 0, (x, v) -> truth(x.overrule(v, 3))).within(0, 1, Courts.CASES - 1, 1);
        edge("P11 overrule, day", 0, (x, v) -> truth(x.overrule(0, v))).within(0, 1, 5000, 1);
        edge("P11 overruled already, day", 0, (x, v) -> truth(x.overrule(Courts.OVERRULED, v)))
                .refuses(-1).refuses(0).refuses(50).refuses(51).refuses(5000);
        edge("P12 suit, marks", 0, (x, v) -> truth(x.suit(v, 5))).within(0, 1, 99999, 1);
        edge("P12 suit, lives", 0, (x, v) -> truth(x.suit(7, v))).within(0, 1, 99, 1);
    }

    private static void tape() {
        edge("P14 end", -1, (x, v) -> x.end(v)).within(0, 0, Courts.BYTES, Courts.BYTES);
        edge("P15 law, day", -1, (x, v) -> x.law(v)).within(0, 1, 5000, 1);
    }

    private static void sheets() {
        edge("P16 sheet, hands", 0, (x, v) -> truth(x.sheet(v, NINES, NINES, NINES, NINES)))
                .within(1, 1, 60, 1);
        for (int k = 0; k < 60; k++) {
            int hand = k;
            Edge weight = edge("P16 sheet, weight of hand " + k, 0, (x, v) -> {
                long[] words = {NINES, NINES, NINES, NINES};
                int shift = 4 * (hand % 16);
                words[hand / 16] = words[hand / 16] & ~(15L << shift) | (long) v << shift;
                return truth(x.sheet(60, words[0], words[1], words[2], words[3]));
            });
            weight.takes(1, 1).takes(9, 1).refuses(0).refuses(10).refuses(15);
        }
        for (int hands = 1; hands < 60; hands++) {
            sheetWithNothingBehind(hands);
        }
    }

    /** So many weights, and zeros behind: one hand more has a weight of 0. */
    private static void sheetWithNothingBehind(int hands) {
        long[] words = new long[4];
        for (int k = 0; k < hands; k++) {
            words[k / 16] |= 1L << 4 * (k % 16);
        }
        edge("P16 sheet of " + hands + " weights, hands", 0,
                (x, v) -> truth(x.sheet(v, words[0], words[1], words[2], words[3])))
                .takes(hands, 1).refuses(hands + 1);
    }

    private static void ships() {
        int next = Courts.SHIPS;
        edge("P17 ship, tons", -1, (x, v) -> x.ship(v, 0, 1, 0, 0, 0)).within(1, next, 5000, next);
        edge("P17 ship, came", -1, (x, v) -> x.ship(1, v, 1, 0, 0, 0)).within(0, next, 15, next);
        edge("P17 ship, left", -1, (x, v) -> x.ship(1, 0, v, 0, 0, 0)).within(0, next, 15, next);
        edge("P17 ship, claim", -1, (x, v) -> x.ship(1, 0, 1, v, 0, 0)).within(0, next, 5000, next);
    }

    private static void articles() {
        int next = Courts.SHIPS;
        edge("P17 ship, owner", -1, (x, v) -> x.ship(1, 0, 1, 0, v, 0)).within(0, next, 100, next);
        edge("P17 ship, master", -1, (x, v) -> x.ship(1, 0, 1, 0, 0, v)).within(0, next, 100, next);
        edge("P17 ship, owner, master 40", -1, (x, v) -> x.ship(1, 0, 1, 0, v, 40)).within(0, next, 60, next);
        edge("P17 ship, master, owner 40", -1, (x, v) -> x.ship(1, 0, 1, 0, 40, v)).within(0, next, 60, next);
        edge("P17 ship, master, owner 100", -1, (x, v) -> x.ship(1, 0, 1, 0, 100, v)).within(0, next, 0, next);
        edge("P17 ship, both", -1, (x, v) -> x.ship(1, 0, 1, 0, v, v)).within(0, next, 50, next);
        edge("P17 ship, one below 0", -1, (x, v) -> x.ship(1, 0, 1, 0, v, 50 - v))
                .takes(0, next).takes(50, next).refuses(-1).refuses(51)
                .refuses(Integer.MIN_VALUE).refuses(Integer.MAX_VALUE);
    }

    private static void judging() {
        edge("P18 judge, known", -1, (x, v) -> x.judge(v, 3)).within(0, 0, 5000, 0);
        edge("P18 judge, day", -1, (x, v) -> x.judge(3, v)).within(0, 0, 5000, 0);
        Twins.nothingHappens("P18 judge, both wrong", Courts.BUSY, x -> x.judge(-1, 5001), -1);
    }

    private static void lookingAtTheJudgement() {
        // 6700 saved, 190 + 4 * 2 thousandths given; hours 8, 5, 0; weights 80, 75, 0.
        edge("P19 judged", -1, (x, v) -> x.judged(v)).takes(1, Courts.LIKE).takes(2, 198).takes(3, 6700)
                .takes(4, 1326).within(0, 0, 5, 128);
        edge("P20 like", -1, (x, v) -> x.like(v)).within(0, 0, Courts.LIKE - 1, 3);
        edge("P21 share, ship", -1, (x, v) -> x.share(v, 0)).takes(1, 5).within(0, 8, Courts.SHIPS - 1, 0);
        edge("P21 share, what", -1, (x, v) -> x.share(1, v)).takes(1, 75).takes(2, 514).takes(3, 0)
                .takes(4, 0).takes(5, 514).within(0, 5, 6, 128);
        edge("P22 hand, ship", -1, (x, v) -> x.hand(v, 0)).takes(1, 172).within(0, 115, Courts.SHIPS - 1, 0);
        edge("P22 hand, k", -1, (x, v) -> x.hand(0, v)).takes(1, 57).within(0, 115, Courts.HANDS - 1, 171);
    }

    private static void savedAndCount() {
        edge("P23 saved, good", -1, (x, v) -> x.saved(v, 7, 60)).takes(4, 0).within(0, 6000, 9, 700);
        edge("P23 saved, known", -1, (x, v) -> x.saved(0, v, 60)).within(0, 4600, 5000, 6000);
        edge("P23 saved, day", -1, (x, v) -> x.saved(0, 7, v)).within(0, 4600, 5000, 6000);
        edge("P24 count", -1, (x, v) -> x.count(v)).takes(1, Courts.SAYINGS).takes(2, 4)
                .takes(3, Courts.VALUES).takes(4, Courts.CASES).takes(5, 1).takes(6, Courts.SHIPS)
                .within(0, Courts.DAY, 7, Courts.BYTES);
    }
}
