/** Promises 2, 9 and 23: clock, value, saved. */
final class WorthTest {
    public static void main(String[] args) {
        clockNeverGoesBack();
        valuesHaveBounds();
        sixtyValuesAtMost();
        latestDayCounts();
        latestToldCountsOfOneDay();
        whatIsKnownLaterIsNotKnownBefore();
        savedOfWrongArguments();
        repairsUpToTheWorth();
        greatestWorth();
        knownFromTheClocksDay();
        soFromItsDay();
        goodsAreApart();
        allSavedIsTheSum();
        Due.finish();
    }

    private static void clockNeverGoesBack() {
        SalvageCourt x = new SalvageCourt();
        Due.due("P2 below 0", x.clock(-1), false);
        Due.due("P2 its own", x.clock(0), true);
        Due.due("P2 later", x.clock(7), true);
        Due.due("P2 its own again", x.clock(7), true);
        Due.due("P2 back", x.clock(6), false);
        Due.due("P2 behind the last", x.clock(5001), false);
        Due.due("P2 far off", x.clock(Integer.MIN_VALUE), false);
        Due.due("P24 clock unchanged", x.count(0), 7);
        Due.due("P2 the last", x.clock(5000), true);
        Due.due("P24 clock", x.count(0), 5000);
    }

    private static void valuesHaveBounds() {
        SalvageCourt x = new SalvageCourt();
        Due.due("P9 least", x.value(0, 0, 0, 0), 1);
        Due.due("P9 greatest", x.value(9, 1000000, 1000000, 5000), 2);
        Due.due("P9 good -1", x.value(-1, 1, 1, 1), -1);
        Due.due("P9 good 10", x.value(10, 1, 1, 1), -1);
        Due.due("P9 coins -1", x.value(0, -1, 1, 1), -1);
        Due.due("P9 coins beyond", x.value(0, 1000001, 1, 1), -1);
        Due.due("P9 repairs -1", x.value(0, 1, -1, 1), -1);
        Due.due("P9 repairs beyond", x.value(0, 1, 1000001, 1), -1);
        Due.due("P9 day -1", x.value(0, 1, 1, -1), -1);
        Due.due("P9 day 5001", x.value(0, 1, 1, 5001), -1);
        Due.due("P24 values", x.count(3), 2);
    }

    private static void sixtyValuesAtMost() {
        SalvageCourt x = new SalvageCourt();
        for (int i = 1; i <= 60; i++) {
            Due.due("P9 value " + i, x.value(i % 10, i, 0, 0), i);
        }
        Due.due("P9 the 61st", x.value(1, 7, 0, 0), -1);
        Due.due("P24 values", x.count(3), 60);
        Due.due("P23 of good 1", x.saved(1, 0, 0), 51);
        Due.due("P23 of good 0", x.saved(0, 0, 0), 60);
    }

    private static void latestDayCounts() {
        SalvageCourt x = new SalvageCourt();
        x.value(3, 900, 100, 20);
        x.value(3, 500, 100, 10);
        Due.due("P23 before any", x.saved(3, 0, 9), 0);
        Due.due("P23 of day 10", x.saved(3, 0, 10), 400);
        Due.due("P23 the day before", x.saved(3, 0, 19), 400);
        Due.due("P23 of day 20", x.saved(3, 0, 20), 800);
        Due.due("P23 another good", x.saved(4, 0, 20), 0);
        x.value(3, 10, 11, 30);
        Due.due("P23 not below 0", x.saved(3, 0, 5000), 0);
    }

    private static void latestToldCountsOfOneDay() {
        SalvageCourt x = new SalvageCourt();
        x.value(0, 5, 0, 4);
        x.value(0, 3, 0, 4);
        Due.due("P23 told last", x.saved(0, 0, 4), 3);
    }

    private static void whatIsKnownLaterIsNotKnownBefore() {
        SalvageCourt x = new SalvageCourt();
        x.value(0, 5, 0, 4);
        x.clock(10);
        x.value(0, 3, 0, 4);
        x.value(0, 9, 0, 6);
        Due.due("P23 as known the day before", x.saved(0, 9, 6), 5);
        Due.due("P23 as known then", x.saved(0, 10, 6), 9);
        Due.due("P23 as known then, of an earlier day", x.saved(0, 10, 5), 3);
        Due.due("P23 as known at last", x.saved(0, 5000, 5000), 9);
    }

    private static void savedOfWrongArguments() {
        SalvageCourt x = new SalvageCourt();
        Due.due("P23 nothing told", x.saved(9, 5000, 5000), 0);
        Due.due("P23 good -1", x.saved(-1, 0, 0), -1);
        Due.due("P23 good 10", x.saved(10, 0, 0), -1);
        Due.due("P23 known -1", x.saved(0, -1, 0), -1);
        Due.due("P23 known 5001", x.saved(0, 5001, 0), -1);
        Due.due("P23 day -1", x.saved(0, 0, -1), -1);
        Due.due("P23 day 5001", x.saved(0, 0, 5001), -1);
    }

    private static int worth(int coins, int repairs) {
        SalvageCourt x = new SalvageCourt();
        x.value(5, coins, repairs, 0);
        return x.saved(5, 0, 0);
    }

    private static void repairsUpToTheWorth() {
        Due.due("P23 a coin more than repairs", worth(101, 100), 1);
        Due.due("P23 as many as repairs", worth(100, 100), 0);
        Due.due("P23 a coin less than repairs", worth(99, 100), 0);
        Due.due("P23 repairs alone", worth(0, 1000000), 0);
        Due.due("P23 neither", worth(0, 0), 0);
    }

    private static void greatestWorth() {
        Due.due("P23 all of it", worth(1000000, 0), 1000000);
        Due.due("P23 all but one", worth(1000000, 1), 999999);
        Due.due("P23 one", worth(1000000, 999999), 1);
        Due.due("P23 none of it", worth(1000000, 1000000), 0);
    }

    private static void knownFromTheClocksDay() {
        for (int today : new int[] {0, 1, 4999, 5000}) {
            SalvageCourt x = new SalvageCourt();
            x.clock(today);
            x.value(0, 8, 0, 0);
            Due.due("P23 known on " + today, x.saved(0, today, 0), 8);
            Due.due("P23 known at last", x.saved(0, 5000, 0), 8);
            if (today > 0) {
                Due.due("P23 not known the day before " + today, x.saved(0, today - 1, 5000), 0);
            }
        }
        SalvageCourt y = new SalvageCourt();
        y.clock(10);
        y.clock(9);
        y.value(0, 8, 0, 0);
        Due.due("P2 a refused clock doesn't tell the day", y.saved(0, 9, 0), 0);
    }

    private static void soFromItsDay() {
        for (int day : new int[] {0, 1, 4999, 5000}) {
            SalvageCourt x = new SalvageCourt();
            x.value(0, 8, 0, day);
            Due.due("P23 so on " + day, x.saved(0, 0, day), 8);
            Due.due("P23 so at last", x.saved(0, 0, 5000), 8);
            if (day > 0) {
                Due.due("P23 not so the day before " + day, x.saved(0, 5000, day - 1), 0);
            }
        }
    }

    private static void goodsAreApart() {
        SalvageCourt x = new SalvageCourt();
        for (int good = 0; good < 10; good++) {
            x.value(good, 10 + good, 0, 10 - good);
        }
        for (int good = 0; good < 10; good++) {
            Due.due("P23 good " + good, x.saved(good, 0, 10), 10 + good);
            Due.due("P23 good " + good + " the day before", x.saved(good, 0, 9 - good), 0);
        }
    }

    private static void allSavedIsTheSum() {
        SalvageCourt x = new SalvageCourt();
        Due.tellLaw(x, "give mean;", 0);
        x.judge(0, 0);
        Due.due("P19 nothing saved", x.judged(3), 0);
        for (int good = 0; good < 10; good++) {
            x.value(good, 1000000, 0, 0);
        }
        x.value(3, 5, 9, 0);
        x.judge(0, 0);
        Due.due("P19 all but one, which is not below 0", x.judged(3), 9000000);
    }
}
