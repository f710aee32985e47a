import java.util.function.Supplier;
import java.util.function.ToLongFunction;

/** Calls that a court just made or a full one refuses, and those that only look: nothing happens. */
final class RefusedTest {
    private static final int NO_SPAN = Integer.MIN_VALUE;
    private static final int LEAST = Integer.MIN_VALUE;
    private static final int MOST = Integer.MAX_VALUE;
    private static final long LEAST_LONG = Long.MIN_VALUE;
    private static final long MOST_LONG = Long.MAX_VALUE;
    private static final long ONES = 0x1111111111111111L;

    public static void main(String[] args) {
        whatIsTakenShows();
        whatIsTakenShowsInTheJudgement();
        fullTaleAndGoods();
        fullCasesLawsAndShips();
        fullTape();
        fullCourtStillTakes();
        freshCourtRefuses();
        freshCourtWithoutASheet();
        withoutALawInForce();
        for (Courts kind : Courts.values()) {
            farOffTelling(kind);
            farOffTexts(kind);
            farOffLooking(kind);
            lookingChangesNothing(kind);
        }
        Due.finish();
    }

    private static void refused(String name, Supplier<SalvageCourt> maker,
            ToLongFunction<SalvageCourt> call) {
        Twins.nothingHappens(name, maker, call, -1);
    }

    private static void refusedAsFalse(String name, Supplier<SalvageCourt> maker,
            ToLongFunction<SalvageCourt> call) {
        Twins.nothingHappens(name, maker, call, 0);
    }

    private static void looks(String name, Courts kind, ToLongFunction<SalvageCourt> call) {
        Due.due(name + " does something, court " + kind, Twins.somethingHappens(kind, call), false);
    }

    private static long truth(boolean answer) {
        return answer ? 1 : 0;
    }

    private static void shows(String name, ToLongFunction<SalvageCourt> call) {
        Due.due(name + " is seen on a court BUSY", Twins.somethingHappens(Courts.BUSY, call), true);
    }

    /** Without this the tests that nothing happens could be blind. */
    private static void whatIsTakenShows() {
        shows("clock", x -> truth(x.clock(8)));
        shows("trust", x -> x.trust(3, 6));
        shows("says", x -> x.says(0, 0, 1, 0, 10000));
        shows("value", x -> x.value(3, 1, 0, 5000));
        shows("earlier", x -> x.earlier(0, 0, 5000));
        shows("overrule", x -> truth(x.overrule(2, 5000)));
        shows("feed", x -> x.feed(0x20202020, 0x20202020, 0x20202020, 0x20202020, 0x20202020));
        shows("end", x -> x.end(Courts.BYTES - 1));
        shows("law", x -> x.law(5000));
        shows("ship", x -> x.ship(1, 0, 0, 0, 0, 0));
        shows("judge", x -> x.judge(4, 60));
    }

    private static void whatIsTakenShowsInTheJudgement() {
        int mark = 1;
        for (int i = 0; i < 5; i++, mark *= 10) {
            int marks = 30000 + mark;
            shows("suit " + marks, x -> truth(x.suit(marks, 6)));
        }
        shows("suit, a life more", x -> truth(x.suit(30000, 7)));
        shows("sheet, a hand less", x -> truth(x.sheet(3, 0x321, 0, 0, 0)));
        shows("sheet, a hand more", x -> truth(x.sheet(5, 0x54321, 0, 0, 0)));
        shows("sheet, a weight more", x -> truth(x.sheet(4, 0x5321, 0, 0, 0)));
        shows("sheet, turned round", x -> truth(x.sheet(4, 0x1234, 0, 0, 0)));
    }

    private static void fullTaleAndGoods() {
        refused("P4 the 41st saying", Courts.FULL, x -> x.says(0, 0, 1, 0, 0));
        refused("P4 the 41st saying, wrong besides", Courts.FULL, x -> x.says(6, 0, 0, 1, 0));
        refused("P5 the 41st saying", Courts.FULL, x -> x.believed(40));
        refused("P9 the 61st value", Courts.FULL, x -> x.value(0, 1, 0, 0));
        refused("P9 the 61st value, the latest day", Courts.FULL, x -> x.value(9, 1000000, 0, 5000));
    }

    private static void fullCasesLawsAndShips() {
        refused("P10 the 41st case", Courts.FULL, x -> x.earlier(0, 0, 0));
        refusedAsFalse("P11 the 41st case", Courts.FULL, x -> truth(x.overrule(40, 0)));
        refused("P15 the seventh law", Courts.FULL, x -> x.law(0));
        refused("P15 the seventh law, day -1", Courts.FULL, x -> x.law(-1));
        refused("P17 the ninth ship", Courts.FULL, x -> x.ship(1, 0, 1, 0, 0, 0));
        refused("P21 the ninth ship", Courts.FULL, x -> x.share(8, 0));
        refused("P22 the ninth ship", Courts.FULL, x -> x.hand(8, 0));
        refused("P22 the 61st hand", Courts.FULL, x -> x.hand(0, 60));
    }

    /** A court BUSY with so many bytes on the tape, the last of them a law's last. */
    private static SalvageCourt withBytes(int bytes) {
        SalvageCourt x = Courts.BUSY.get();
        x.end(0);
        String law = "give least;else 9;";
        Due.put(x, " ".repeat(bytes - law.length()) + law);
        return x;
    }

    private static void fullTape() {
        for (int bytes = 281; bytes <= 300; bytes++) {
            int held = bytes;
            refused("P13 feed behind " + bytes, () -> withBytes(held), x -> x.feed(0, 0, 0, 0, 0));
            refused("P14 end behind " + bytes, () -> withBytes(held), x -> x.end(held + 1));
            Due.due("P14 end of " + bytes, withBytes(bytes).end(bytes), bytes);
        }
        Due.due("P13 feed behind 280", withBytes(280).feed(0, 0, 0, 0, 0), 300);
        Due.due("P13 feed behind 279", withBytes(279).feed(0, 0, 0, 0, 0), 299);
        refused("P13 feed", Courts.FULL, x -> x.feed(LEAST, MOST, -1, 0, 1));
    }

    private static void fullCourtStillTakes() {
        Due.due("P2 clock", Courts.FULL.get().clock(5000), true);
        refusedAsFalse("P2 clock back", Courts.FULL, x -> truth(x.clock(4999)));
        refusedAsFalse("P2 clock on", Courts.FULL, x -> truth(x.clock(5001)));
        Due.due("P3 trust", Courts.FULL.get().trust(0, 9), 5);
        Due.due("P5 the 40th saying", Courts.FULL.get().believed(39) >= 0, true);
        Due.due("P11 the 40th case", Courts.FULL.get().overrule(39, 5000), true);
        Due.due("P12 suit", Courts.FULL.get().suit(99999, 99), true);
        Due.due("P14 end", Courts.FULL.get().end(300), 300);
        Due.due("P16 sheet", Courts.FULL.get().sheet(60, ONES, ONES, ONES, ONES), true);
        Due.due("P18 judge", Courts.FULL.get().judge(5000, 5000), 0);
        Due.due("P21 the eighth ship", Courts.FULL.get().share(7, 0) > 0, true);
        Due.due("P22 the 60th hand", Courts.FULL.get().hand(7, 59) >= 0, true);
    }

    private static void freshCourtRefuses() {
        refusedAsFalse("P2 clock", Courts.FRESH, x -> truth(x.clock(-1)));
        refused("P5 no saying", Courts.FRESH, x -> x.believed(0));
        Twins.nothingHappens("P6 no span", Courts.FRESH, x -> x.spans(0, 1, 0), NO_SPAN);
        Twins.nothingHappens("P7 no quarrel", Courts.FRESH, x -> x.quarrel(), 0);
        refused("P8 no quarrel", Courts.FRESH, x -> x.quarrels(0));
        refusedAsFalse("P11 no case", Courts.FRESH, x -> truth(x.overrule(0, 0)));
        refused("P14 no byte", Courts.FRESH, x -> x.end(1));
        for (int what = 0; what < 7; what++) {
            int open = what;
            refused("P19 no judgement", Courts.FRESH, x -> x.judged(open));
            refused("P21 no judgement", Courts.FRESH, x -> x.share(0, open));
        }
        refused("P20 no judgement", Courts.FRESH, x -> x.like(0));
        refused("P22 no judgement", Courts.FRESH, x -> x.hand(0, 0));
    }

    private static void freshCourtWithoutASheet() {
        refused("P17 no sheet", Courts.FRESH, x -> x.ship(1, 0, 1, 0, 0, 0));
        refused("P17 a sheet without hands", Courts.FRESH, x -> {
            x.sheet(0, ONES, ONES, ONES, ONES);
            return x.ship(1, 0, 1, 0, 0, 0);
        });
        refused("P17 a sheet with a wrong weight", Courts.FRESH, x -> {
            x.sheet(2, 0xa1, 0, 0, 0);
            return x.ship(1, 0, 1, 0, 0, 0);
        });
    }

    /** A law that is known from day 3 on and in force from day 20 on, and a judgement by it. */
    private static SalvageCourt withALaterLaw() {
        SalvageCourt x = new SalvageCourt();
        x.clock(3);
        x.earlier(0, 321, 0);
        Due.tellLaw(x, "give mean;", 20);
        x.judge(3, 20);
        return x;
    }

    private static void withoutALawInForce() {
        Twins.nothingHappens("P18 no law", Courts.FRESH, x -> x.judge(5000, 5000), 1);
        Twins.nothingHappens("P18 not in force", RefusedTest::withALaterLaw, x -> x.judge(5000, 19), 1);
        Twins.nothingHappens("P18 not known", RefusedTest::withALaterLaw, x -> x.judge(2, 5000), 1);
        Due.due("P18 just known and in force", withALaterLaw().judge(3, 20), 0);
        refused("P18 no law and no such day", Courts.FRESH, x -> x.judge(0, -1));
    }

    private static void farOffTelling(Courts kind) {
        for (int far : new int[] {LEAST, MOST}) {
            refusedAsFalse("P2 far off", kind, x -> truth(x.clock(far)));
            refused("P3 far off", kind, x -> x.trust(far, far));
            refused("P4 far off", kind, x -> x.says(far, far, far, far, far));
            refused("P4 far off hours", kind, x -> x.says(0, 0, 1, far, far));
            refused("P4 far off both ways", kind, x -> x.says(0, 0, 1, LEAST, MOST));
            refused("P9 far off", kind, x -> x.value(far, far, far, far));
            refused("P10 far off", kind, x -> x.earlier(far, far, far));
            refusedAsFalse("P11 far off", kind, x -> truth(x.overrule(far, far)));
            refusedAsFalse("P12 far off", kind, x -> truth(x.suit(far, far)));
            refused("P17 far off", kind, x -> x.ship(far, far, far, far, far, far));
            refused("P17 far off articles", kind, x -> x.ship(1, 0, 1, 0, far, far));
            refused("P17 articles that make up", kind, x -> x.ship(1, 0, 1, 0, LEAST, MOST));
            refused("P17 articles that make up", kind, x -> x.ship(1, 0, 1, 0, MOST, LEAST));
            refused("P18 far off", kind, x -> x.judge(far, far));
        }
    }

    private static void farOffTexts(Courts kind) {
        for (int far : new int[] {LEAST, MOST}) {
            refused("P14 far off", kind, x -> x.end(far));
            refused("P15 far off", kind, x -> x.law(far));
            refusedAsFalse("P16 far off", kind, x -> truth(x.sheet(far, ONES, ONES, ONES, ONES)));
        }
        for (long far : new long[] {LEAST_LONG, MOST_LONG, -1, 0}) {
            refusedAsFalse("P16 far off weights", kind, x -> truth(x.sheet(60, far, far, far, far)));
            refusedAsFalse("P16 far off a", kind, x -> truth(x.sheet(60, far, ONES, ONES, ONES)));
            refusedAsFalse("P16 far off b", kind, x -> truth(x.sheet(60, ONES, far, ONES, ONES)));
            refusedAsFalse("P16 far off c", kind, x -> truth(x.sheet(60, ONES, ONES, far, ONES)));
            refusedAsFalse("P16 far off d", kind, x -> truth(x.sheet(60, ONES, ONES, ONES, far)));
            Due.due("P16 far off behind the hands", kind.get().sheet(16, ONES, far, far, far), true);
        }
    }

    private static void farOffLooking(Courts kind) {
        for (int far : new int[] {LEAST, MOST}) {
            refused("P5 far off", kind, x -> x.believed(far));
            Twins.nothingHappens("P6 far off", kind, x -> x.spans(far, far, far), NO_SPAN);
            Twins.nothingHappens("P6 far off things", kind, x -> x.spans(far, far, 0), NO_SPAN);
            refused("P8 far off", kind, x -> x.quarrels(far));
            refused("P19 far off", kind, x -> x.judged(far));
            refused("P20 far off", kind, x -> x.like(far));
            refused("P21 far off", kind, x -> x.share(far, far));
            refused("P21 far off what", kind, x -> x.share(0, far));
            refused("P22 far off", kind, x -> x.hand(far, far));
            refused("P22 far off hand", kind, x -> x.hand(0, far));
            refused("P23 far off", kind, x -> x.saved(far, far, far));
            refused("P24 far off", kind, x -> x.count(far));
        }
    }

    private static void lookingChangesNothing(Courts kind) {
        looks("P5", kind, x -> x.believed(0));
        looks("P6", kind, x -> x.spans(0, 15, 1));
        looks("P7", kind, x -> x.quarrel());
        looks("P8", kind, x -> x.quarrels(0));
        looks("P19", kind, x -> x.judged(4));
        looks("P20", kind, x -> x.like(0));
        looks("P21", kind, x -> x.share(0, 2));
        looks("P22", kind, x -> x.hand(0, 0));
        looks("P23", kind, x -> x.saved(0, 5000, 5000));
        looks("P24", kind, x -> x.count(2));
    }
}
