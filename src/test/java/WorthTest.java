/** Promises 2, 9 and 23: clock, value, saved. */
final class WorthTest {
    public static void main(String[] args) {
        clockNeverGoesBack();
        valuesHaveBounds();
        sixtyValuesAtMost();
        latestDayCounts();
        latestToldCountsOfOneDay();
        whatIsKnownLaterIsNotKnownBefore();
        savedOfWrongArguments();
        Due.finish();
    }

    private static void clockNeverGoesBack() {
        SalvageCourt x = new SalvageCourt();
        Due.due("P2 below 0", x.clock(-1), false);
        Due.due("P2 its own", x.clock(0), true);
        Due.due("P2 later", x.clock(7), true);
        Due.due("P2 its own again", x.clock(7), true);
        Due.due("P2 back", x.clock(6), false);
        Due.due("P2 behind the last", x.clock(5001), false);
        Due.due("P2 far off", x.clock(Integer.MIN_VALUE), false);
        Due.due("P24 clock unchanged", x.count(0), 7);
        Due.due("P2 the last", x.clock(5000), true);
        Due.due("P24 clock", x.count(0), 5000);
    }

    private static void valuesHaveBounds() {
        SalvageCourt x = new SalvageCourt();
        Due.due("P9 least", x.value(0, 0, 0, 0), 1);
        Due.due("P9 greatest", x.value(9, 1000000, 1000000, 5000), 2);
        Due.due("P9 good -1", x.value(-1, 1, 1, 1), -1);
        Due.due("P9 good 10", x.value(10, 1, 1, 1), -1);
        Due.due("P9 coins -1", x.value(0, -1, 1, 1), -1);
        Due.due("P9 coins beyond", x.value(0, 1000001, 1, 1), -1);
        Due.due("P9 repairs -1", x.value(0, 1, -1, 1), -1);
        Due.due("P9 repairs beyond", x.value(0, 1, 1000001, 1), -1);
        Due.due("P9 day -1", x.value(0, 1, 1, -1), -1);
        Due.due("P9 day 5001", x.value(0, 1, 1, 5001), -1);
        Due.due("P24 values", x.count(3), 2);
    }

    private static void sixtyValuesAtMost() {
        SalvageCourt x = new SalvageCourt();
        for (int i = 1; i <= 60; i++) {
            Due.due("P9 value " + i, x.value(i % 10, i, 0, 0), i);
        }
        Due.due("P9 the 61st", x.value(1, 7, 0, 0), -1);
        Due.due("P24 values", x.count(3), 60);
        Due.due("P23 of good 1", x.saved(1, 0, 0), 51);
        Due.due("P23 of good 0", x.saved(0, 0, 0), 60);
    }

    private static void latestDayCounts() {
        SalvageCourt x = new SalvageCourt();
        x.value(3, 900, 100, 20);
        x.value(3, 500, 100, 10);
        Due.due("P23 before any", x.saved(3, 0, 9), 0);
        Due.due("P23 of day 10", x.saved(3, 0, 10), 400);
        Due.due("P23 the day before", x.saved(3, 0, 19), 400);
        Due.due("P23 of day 20", x.saved(3, 0, 20), 800);
        Due.due("P23 another good", x.saved(4, 0, 20), 0);
        x.value(3, 10, 11, 30);
        Due.due("P23 not below 0", x.saved(3, 0, 5000), 0);
    }

    private static void latestToldCountsOfOneDay() {
        SalvageCourt x = new SalvageCourt();
        x.value(0, 5, 0, 4);
        x.value(0, 3, 0, 4);
        Due.due("P23 told last", x.saved(0, 0, 4), 3);
    }

    private static void whatIsKnownLaterIsNotKnownBefore() {
        SalvageCourt x = new SalvageCourt();
        x.value(0, 5, 0, 4);
        x.clock(10);
        x.value(0, 3, 0, 4);
        x.value(0, 9, 0, 6);
        Due.due("P23 as known the day before", x.saved(0, 9, 6), 5);
        Due.due("P23 as known then", x.saved(0, 10, 6), 9);
        Due.due("P23 as known then, of an earlier day", x.saved(0, 10, 5), 3);
        Due.due("P23 as known at last", x.saved(0, 5000, 5000), 9);
    }

    private static void savedOfWrongArguments() {
        SalvageCourt x = new SalvageCourt();
        Due.due("P23 nothing told", x.saved(9, 5000, 5000), 0);
        Due.due("P23 good -1", x.saved(-1, 0, 0), -1);
        Due.due("P23 good 10", x.saved(10, 0, 0), -1);
        Due.due("P23 known -1", x.saved(0, -1, 0), -1);
        Due.due("P23 known 5001", x.saved(0, 5001, 0), -1);
        Due.due("P23 day -1", x.saved(0, 0, -1), -1);
        Due.due("P23 day 5001", x.saved(0, 0, 5001), -1);
    }
}
