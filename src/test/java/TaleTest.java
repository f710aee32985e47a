/** Promises 3 to 8: trust, says, believed, spans, quarrel, quarrels. */
final class TaleTest {
    private static final int NO_SPAN = Integer.MIN_VALUE;

    public static void main(String[] args) {
        trustIsAnsweredAsItWas();
        wrongTrustChangesNothing();
        sayingsHaveBounds();
        fortySayingsAtMost();
        beliefGoesByTrustThenNumber();
        beliefSkipsAndGoesOn();
        spansGoThroughOthers();
        spansMayBeOpenOnOneSide();
        spansOfWrongThings();
        quarrelDropsTheGreatestNumbers();
        quarrelLeavesOneOfTwoCircles();
        quarrelIsBlindToTrust();
        longestSpan();
        everyTrustHasItsPlace();
        trustBetweenIsNoTie();
        rangesThatJustMeet();
        circlesThatJustClose();
        hoursFarthestApart();
        quarrelOfOneHour();
        fortyThatAreTrueTogether();
        fortyOfWhichTheLastQuarrels();
        quarrelStandsWhateverIsToldBehind();
        beliefIsAnewWithEachSaying();
        Due.finish();
    }

    private static void trustIsAnsweredAsItWas() {
        SalvageCourt x = new SalvageCourt();
        for (int log = 0; log < 6; log++) {
            Due.due("P3 first trust of " + log, x.trust(log, log), 5);
            Due.due("P3 second trust of " + log, x.trust(log, 9), log);
        }
        Due.due("P3 least", x.trust(0, 0), 9);
        Due.due("P3 after least", x.trust(0, 9), 0);
    }

    private static void wrongTrustChangesNothing() {
        SalvageCourt x = new SalvageCourt();
        Due.due("P3 log -1", x.trust(-1, 3), -1);
        Due.due("P3 log 6", x.trust(6, 3), -1);
        Due.due("P3 trust -1", x.trust(2, -1), -1);
        Due.due("P3 trust 10", x.trust(2, 10), -1);
        Due.due("P3 far off", x.trust(Integer.MIN_VALUE, Integer.MAX_VALUE), -1);
        Due.due("P3 unchanged", x.trust(2, 5), 5);
    }

    private static void sayingsHaveBounds() {
        SalvageCourt x = new SalvageCourt();
        Due.due("P4 widest", x.says(5, 15, 0, -10000, 10000), 0);
        Due.due("P4 narrow", x.says(0, 0, 15, 0, 0), 1);
        Due.due("P4 log -1", x.says(-1, 0, 1, 0, 0), -1);
        Due.due("P4 log 6", x.says(6, 0, 1, 0, 0), -1);
        Due.due("P4 thing a -1", x.says(0, -1, 1, 0, 0), -1);
        Due.due("P4 thing a 16", x.says(0, 16, 1, 0, 0), -1);
        Due.due("P4 thing b -1", x.says(0, 1, -1, 0, 0), -1);
        Due.due("P4 thing b 16", x.says(0, 1, 16, 0, 0), -1);
        Due.due("P4 alike", x.says(0, 7, 7, 0, 0), -1);
        Due.due("P4 low above high", x.says(0, 0, 1, 2, 1), -1);
        Due.due("P4 low too low", x.says(0, 0, 1, -10001, 0), -1);
        Due.due("P4 high too high", x.says(0, 0, 1, 0, 10001), -1);
        Due.due("P4 both too high", x.says(0, 0, 1, 10001, 10001), -1);
        Due.due("P4 both too low", x.says(0, 0, 1, -10001, -10001), -1);
        Due.due("P4 number goes on", x.says(0, 0, 1, 10000, 10000), 2);
        Due.due("P24 sayings", x.count(1), 3);
    }

    private static void fortySayingsAtMost() {
        SalvageCourt x = new SalvageCourt();
        for (int i = 0; i < 40; i++) {
            Due.due("P4 saying " + i, x.says(i % 6, 0, 1, i, i), i);
        }
        Due.due("P4 the 41st", x.says(0, 0, 1, 0, 0), -1);
        Due.due("P24 sayings", x.count(1), 40);
        Due.due("P24 believed", x.count(2), 1);
        Due.due("P5 the first", x.believed(0), 1);
        Due.due("P5 the last", x.believed(39), 0);
        Due.due("P5 none", x.believed(40), -1);
        Due.due("P7 two of forty", x.quarrel(), 2);
        Due.due("P8 first", x.quarrels(0), 0);
        Due.due("P8 second", x.quarrels(1), 1);
        Due.due("P3 raise", x.trust(3, 6), 5);
        Due.due("P5 raised log's first", x.believed(3), 1);
        Due.due("P5 no longer", x.believed(0), 0);
        Due.due("P6 by the raised log", x.spans(0, 1, 1), 3);
    }

    private static void beliefGoesByTrustThenNumber() {
        SalvageCourt x = new SalvageCourt();
        x.says(0, 0, 1, 1, 1);
        x.says(1, 0, 1, 2, 2);
        x.says(2, 1, 0, -2, -2);
        Due.due("P5 the least number of one trust", x.believed(0), 1);
        Due.due("P5 against it", x.believed(1), 0);
        Due.due("P5 against it, told backwards", x.believed(2), 0);
        x.trust(2, 6);
        Due.due("P5 now out", x.believed(0), 0);
        Due.due("P5 with the trusted", x.believed(1), 1);
        Due.due("P5 the trusted", x.believed(2), 1);
        x.trust(2, 0);
        x.trust(1, 0);
        x.trust(0, 0);
        Due.due("P5 trust 0 is heard, too", x.believed(0), 1);
        Due.due("P5 none below", x.believed(-1), -1);
        Due.due("P5 none above", x.believed(3), -1);
    }

    private static void beliefSkipsAndGoesOn() {
        SalvageCourt x = new SalvageCourt();
        x.says(0, 0, 1, 5, 10);
        x.says(0, 1, 2, 5, 10);
        x.says(0, 0, 2, 21, 30);
        x.says(0, 0, 2, 20, 30);
        x.says(0, 2, 0, -9, 0);
        Due.due("P5 just beyond", x.believed(2), 0);
        Due.due("P5 just at the bound", x.believed(3), 1);
        Due.due("P5 beyond on the other side", x.believed(4), 0);
        Due.due("P24 believed", x.count(2), 3);
        Due.due("P6 narrowed to its end", x.spans(0, 1, 0), 10);
        Due.due("P6 and from above", x.spans(0, 1, 1), 10);
    }

    private static void spansGoThroughOthers() {
        SalvageCourt x = new SalvageCourt();
        x.says(0, 3, 9, -4, 7);
        x.says(0, 12, 9, 2, 3);
        Due.due("P6 least", x.spans(3, 12, 0), -7);
        Due.due("P6 greatest", x.spans(3, 12, 1), 5);
        Due.due("P6 least backwards", x.spans(12, 3, 0), -5);
        Due.due("P6 greatest backwards", x.spans(12, 3, 1), 7);
        x.says(1, 3, 12, 0, 10000);
        Due.due("P6 tightened", x.spans(3, 12, 0), 0);
        Due.due("P6 others tightened, too", x.spans(3, 9, 0), 2);
    }

    private static void spansMayBeOpenOnOneSide() {
        SalvageCourt x = new SalvageCourt();
        Due.due("P6 nothing told", x.spans(0, 1, 0), NO_SPAN);
        Due.due("P6 nothing told, greatest", x.spans(0, 1, 1), NO_SPAN);
        Due.due("P6 itself", x.spans(15, 15, 1), 0);
        x.says(0, 0, 1, -5, -5);
        Due.due("P6 below 0", x.spans(0, 1, 0), -5);
        Due.due("P6 no way there", x.spans(0, 2, 1), NO_SPAN);
    }

    private static void spansOfWrongThings() {
        SalvageCourt x = new SalvageCourt();
        Due.due("P6 a -1", x.spans(-1, 0, 0), NO_SPAN);
        Due.due("P6 b -1", x.spans(0, -1, 0), NO_SPAN);
        Due.due("P6 b 16", x.spans(0, 16, 1), NO_SPAN);
        Due.due("P6 both 16", x.spans(16, 16, 0), NO_SPAN);
        Due.due("P6 what -1", x.spans(3, 3, -1), NO_SPAN);
        Due.due("P6 what 2", x.spans(3, 3, 2), NO_SPAN);
        Due.due("P6 itself", x.spans(0, 0, 0), 0);
    }

    private static void quarrelDropsTheGreatestNumbers() {
        SalvageCourt x = new SalvageCourt();
        Due.due("P7 nothing told", x.quarrel(), 0);
        Due.due("P8 nothing told", x.quarrels(0), -1);
        x.says(0, 0, 1, 0, 0);
        x.says(0, 4, 5, 0, 0);
        x.says(0, 0, 1, 1, 1);
        x.says(0, 0, 1, 2, 2);
        Due.due("P7 two", x.quarrel(), 2);
        Due.due("P8 first", x.quarrels(0), 0);
        Due.due("P8 second", x.quarrels(1), 2);
        Due.due("P8 none above", x.quarrels(2), -1);
        Due.due("P8 none below", x.quarrels(-1), -1);
    }

    /** 3 goes first, although it is in the shorter circle: what is left need not be the fewest. */
    private static void quarrelLeavesOneOfTwoCircles() {
        SalvageCourt x = new SalvageCourt();
        x.says(0, 0, 1, 1, 1);
        x.says(0, 1, 2, 1, 1);
        x.says(0, 2, 0, 1, 1);
        x.says(0, 1, 0, 0, 0);
        Due.due("P7 the longer circle", x.quarrel(), 3);
        Due.due("P8 last", x.quarrels(2), 2);
        SalvageCourt y = new SalvageCourt();
        y.says(0, 1, 2, 1, 1);
        y.says(0, 1, 0, 0, 0);
        y.says(0, 0, 1, 1, 1);
        y.says(0, 2, 0, 1, 1);
        Due.due("P7 the shorter circle", y.quarrel(), 2);
        Due.due("P8 its first", y.quarrels(0), 1);
        Due.due("P8 its second", y.quarrels(1), 2);
    }

    private static void quarrelIsBlindToTrust() {
        SalvageCourt x = new SalvageCourt();
        x.says(0, 0, 1, 0, 0);
        x.says(1, 0, 1, 1, 1);
        x.says(2, 0, 1, 2, 2);
        x.trust(2, 9);
        Due.due("P8 by numbers alone", x.quarrels(0), 0);
        Due.due("P8 by numbers alone, last", x.quarrels(1), 1);
        Due.due("P5 believed by trust", x.believed(2), 1);
    }

    private static void longestSpan() {
        SalvageCourt x = new SalvageCourt();
        for (int i = 0; i < 15; i++) {
            x.says(0, i, i + 1, 10000, 10000);
        }
        Due.due("P6 all in a row", x.spans(0, 15, 0), 150000);
        Due.due("P6 all in a row, greatest", x.spans(0, 15, 1), 150000);
        Due.due("P6 all in a row, backwards", x.spans(15, 0, 1), -150000);
        x.says(1, 15, 0, -10000, 10000);
        Due.due("P7 all sixteen", x.quarrel(), 16);
        Due.due("P8 the sixteenth", x.quarrels(15), 15);
    }

    private static void everyTrustHasItsPlace() {
        for (int trust = 1; trust <= 9; trust++) {
            SalvageCourt x = new SalvageCourt();
            x.says(0, 0, 1, 1, 1);
            x.says(5, 0, 1, 2, 2);
            x.trust(0, trust - 1);
            x.trust(5, trust);
            Due.due("P5 trust " + (trust - 1) + " is below " + trust, x.believed(0), 0);
            Due.due("P5 trust " + trust + " is above " + (trust - 1), x.believed(1), 1);
            x.trust(0, trust);
            Due.due("P5 of one trust " + trust + ", the first", x.believed(0), 1);
            Due.due("P5 of one trust " + trust + ", the second", x.believed(1), 0);
        }
    }

    private static void trustBetweenIsNoTie() {
        SalvageCourt x = new SalvageCourt();
        x.says(3, 0, 1, 1, 1);
        x.says(4, 0, 1, 2, 2);
        x.trust(4, 4);
        Due.due("P3 5 at first is above 4", x.believed(0), 1);
        x.trust(4, 5);
        Due.due("P3 5 at first is 5", x.believed(0), 1);
        x.trust(4, 6);
        Due.due("P3 5 at first is below 6", x.believed(0), 0);
        Due.due("P24 one of them", x.count(2), 1);
    }

    /** Thing 1 is 0 to 5 hours behind thing 0; then another range is told. */
    private static void besides(int a, int b, int low, int high, boolean meets) {
        SalvageCourt x = new SalvageCourt();
        x.says(0, 0, 1, 0, 5);
        x.says(0, a, b, low, high);
        String name = a + " " + b + " from " + low + " to " + high;
        Due.due("P5 " + name, x.believed(1), meets ? 1 : 0);
        Due.due("P7 " + name, x.quarrel(), meets ? 0 : 2);
        Due.due("P24 " + name, x.count(2), meets ? 2 : 1);
    }

    private static void rangesThatJustMeet() {
        besides(0, 1, 5, 9, true);
        besides(0, 1, 6, 9, false);
        besides(0, 1, -4, 0, true);
        besides(0, 1, -4, -1, false);
        besides(1, 0, -9, -5, true);
        besides(1, 0, -9, -6, false);
        besides(1, 0, 0, 4, true);
        besides(1, 0, 1, 4, false);
        besides(0, 1, 5, 5, true);
        besides(0, 1, -10000, 10000, true);
    }

    private static void circlesThatJustClose() {
        for (int low = -2; low <= -1; low++) {
            SalvageCourt x = new SalvageCourt();
            x.says(0, 0, 1, 1, 5);
            x.says(0, 1, 2, 1, 5);
            x.says(0, 2, 0, low, 9);
            boolean closes = low == -2;
            Due.due("P5 back by " + low, x.believed(2), closes ? 1 : 0);
            Due.due("P7 back by " + low, x.quarrel(), closes ? 0 : 3);
            Due.due("P6 back by " + low, x.spans(0, 2, 1), closes ? 2 : 10);
        }
    }

    private static void hoursFarthestApart() {
        SalvageCourt x = new SalvageCourt();
        x.says(0, 0, 1, 10000, 10000);
        x.says(0, 0, 1, -10000, 9999);
        x.says(0, 1, 0, -10000, 10000);
        x.says(0, 1, 0, -9999, 10000);
        Due.due("P5 an hour less", x.believed(1), 0);
        Due.due("P5 just so far back", x.believed(2), 1);
        Due.due("P5 an hour less back", x.believed(3), 0);
        Due.due("P6 least", x.spans(0, 1, 0), 10000);
        Due.due("P6 greatest", x.spans(0, 1, 1), 10000);
        Due.due("P6 back", x.spans(1, 0, 0), -10000);
    }

    private static void quarrelOfOneHour() {
        SalvageCourt x = new SalvageCourt();
        x.says(0, 0, 1, 3, 3);
        Due.due("P7 one alone can be true", x.quarrel(), 0);
        x.says(0, 0, 1, 3, 3);
        Due.due("P7 the same twice", x.quarrel(), 0);
        x.says(0, 0, 1, 4, 4);
        Due.due("P7 an hour besides", x.quarrel(), 2);
        Due.due("P8 the first of the same", x.quarrels(0), 0);
        Due.due("P8 the other", x.quarrels(1), 2);
    }

    private static void fortyThatAreTrueTogether() {
        SalvageCourt x = new SalvageCourt();
        for (int i = 0; i < 40; i++) {
            x.says(i % 6, i % 16, (i + 1) % 16, i % 16 == 15 ? -10000 : 0, 10000);
        }
        Due.due("P24 all are believed", x.count(2), 40);
        Due.due("P5 the last", x.believed(39), 1);
        Due.due("P7 no quarrel", x.quarrel(), 0);
        Due.due("P8 no quarrel", x.quarrels(0), -1);
    }

    private static void fortyOfWhichTheLastQuarrels() {
        SalvageCourt x = new SalvageCourt();
        for (int i = 0; i < 39; i++) {
            x.says(0, 2, 3, 0, i);
        }
        x.says(0, 2, 3, -1, -1);
        Due.due("P7 the last with the first", x.quarrel(), 2);
        Due.due("P8 the first", x.quarrels(0), 0);
        Due.due("P8 the last", x.quarrels(1), 39);
        Due.due("P24 all but the last", x.count(2), 39);
        x.trust(1, 9);
        Due.due("P24 trust of a log that says nothing", x.count(2), 39);
    }

    private static void quarrelStandsWhateverIsToldBehind() {
        SalvageCourt x = new SalvageCourt();
        x.says(0, 4, 5, 1, 1);
        x.says(0, 0, 1, 1, 1);
        x.says(0, 0, 1, 2, 2);
        Due.due("P7 two", x.quarrel(), 2);
        x.says(0, 0, 1, 3, 3);
        x.says(0, 4, 5, 2, 2);
        Due.due("P7 still two", x.quarrel(), 2);
        Due.due("P8 the same first", x.quarrels(0), 1);
        Due.due("P8 the same second", x.quarrels(1), 2);
        Due.due("P8 no third", x.quarrels(2), -1);
    }

    private static void beliefIsAnewWithEachSaying() {
        SalvageCourt x = new SalvageCourt();
        x.trust(1, 6);
        x.says(0, 0, 1, 1, 1);
        Due.due("P5 believed", x.believed(0), 1);
        x.says(1, 0, 1, 2, 2);
        Due.due("P5 not any more", x.believed(0), 0);
        Due.due("P6 by the one trusted", x.spans(0, 1, 0), 2);
        Due.due("P24 one", x.count(2), 1);
        x.trust(1, 4);
        Due.due("P5 believed again", x.believed(0), 1);
        Due.due("P6 by the first again", x.spans(0, 1, 0), 1);
    }
}
