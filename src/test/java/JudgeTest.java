/** Promises 1, 18, 19 and 24: a new object, judge, judged, count. */
final class JudgeTest {
    public static void main(String[] args) {
        nothingIsTold();
        judgeWantsDaysAndALaw();
        lawInForceByDay();
        lawInForceAsKnown();
        judgementWithoutLawLeavesTheLatest();
        everythingAsKnown();
        givenIsRoundedDown();
        countsOfOthers();
        objectsAreApart();
        lawsAtTheirFirstAndLastDays();
        theSixthLaw();
        fewerShipsAreNotKept();
        lawsOfOneDayKnownLater();
        theLastOfFiveHundredTwelveCalls();
        Due.finish();
    }

    private static void nothingIsTold() {
        SalvageCourt x = new SalvageCourt();
        for (int what = 0; what < 8; what++) {
            Due.due("P1 count " + what, x.count(what), 0);
        }
        for (int what = -1; what < 7; what++) {
            Due.due("P19 judged " + what, x.judged(what), -1);
        }
        Due.due("P1 no like one", x.like(0), -1);
        Due.due("P1 no share", x.share(0, 0), -1);
        Due.due("P1 no hand", x.hand(0, 0), -1);
        Due.due("P1 no saying", x.believed(0), -1);
        Due.due("P1 no quarrel", x.quarrel(), 0);
        Due.due("P1 nothing saved", x.saved(0, 0, 0), 0);
        Due.due("P1 no case", x.overrule(0, 0), false);
    }

    private static void judgeWantsDaysAndALaw() {
        SalvageCourt x = new SalvageCourt();
        Due.due("P18 no law", x.judge(0, 0), 1);
        Due.due("P18 no law at last", x.judge(5000, 5000), 1);
        Due.tellLaw(x, "give mean;", 0);
        Due.due("P18 known -1", x.judge(-1, 0), -1);
        Due.due("P18 known 5001", x.judge(5001, 0), -1);
        Due.due("P18 day -1", x.judge(0, -1), -1);
        Due.due("P18 day 5001", x.judge(0, 5001), -1);
        Due.due("P19 nothing happened", x.judged(0), -1);
        Due.due("P18", x.judge(0, 0), 0);
        Due.due("P18 the last days", x.judge(5000, 5000), 0);
        Due.due("P19 what -1", x.judged(-1), -1);
        Due.due("P19 what 6", x.judged(6), -1);
        Due.due("P19 goes back", x.judged(5), 0);
    }

    private static long lawOf(SalvageCourt x, int known, int day) {
        return x.judge(known, day) == 0 ? x.judged(0) : -1;
    }

    private static void lawInForceByDay() {
        SalvageCourt x = new SalvageCourt();
        Due.tellLaw(x, "give mean;else 1;", 30);
        Due.tellLaw(x, "give mean;else 2;", 10);
        Due.tellLaw(x, "give mean;else 3;", 20);
        Due.tellLaw(x, "give mean;else 4;", 10);
        Due.due("P18 none yet", x.judge(0, 9), 1);
        Due.due("P19 of one day the latest told", lawOf(x, 0, 10), 3);
        Due.due("P19 its rate", x.judged(2), 4);
        Due.due("P19 until the next", lawOf(x, 0, 19), 3);
        Due.due("P19 the next", lawOf(x, 0, 20), 2);
        Due.due("P19 its rate", x.judged(2), 3);
        Due.due("P19 the latest day, though told first", lawOf(x, 0, 5000), 0);
        Due.due("P19 its rate", x.judged(2), 1);
    }

    private static void lawInForceAsKnown() {
        SalvageCourt x = new SalvageCourt();
        Due.tellLaw(x, "give mean;", 0);
        x.clock(100);
        Due.tellLaw(x, "give mean;", 50);
        Due.due("P19 not known yet", lawOf(x, 99, 200), 0);
        Due.due("P19 known", lawOf(x, 100, 50), 1);
        Due.due("P19 not in force", lawOf(x, 100, 49), 0);
    }

    private static void judgementWithoutLawLeavesTheLatest() {
        SalvageCourt x = new SalvageCourt();
        x.earlier(0, 77, 0);
        Due.tellLaw(x, "give mean;", 5);
        x.judge(0, 5);
        Due.due("P18 no law", x.judge(0, 4), 1);
        Due.due("P18 wrong", x.judge(0, -4), -1);
        Due.due("P19 the latest stands", x.judged(2), 77);
        Due.due("P20 the latest stands", x.like(0), 0);
    }

    private static void everythingAsKnown() {
        SalvageCourt x = new SalvageCourt();
        Due.tellLaw(x, "give mean;", 0);
        x.says(0, 0, 1, 1, 1);
        x.sheet(1, 1, 0, 0, 0);
        x.ship(1, 0, 1, 0, 0, 0);
        x.value(0, 1000, 0, 0);
        x.earlier(0, 500, 0);
        x.clock(20);
        x.value(0, 3000, 0, 10);
        x.value(1, 100, 0, 0);
        x.earlier(0, 700, 10);
        x.judge(19, 10);
        Due.due("P19 saved as known before", x.judged(3), 1000);
        Due.due("P19 given as known before", x.judged(4), 500);
        x.judge(20, 9);
        Due.due("P19 saved the day before", x.judged(3), 1100);
        Due.due("P19 given the day before", x.judged(4), 550);
        x.judge(20, 10);
        Due.due("P19 saved", x.judged(3), 3100);
        Due.due("P19 like", x.judged(1), 2);
        Due.due("P19 given", x.judged(4), 1860);
        x.judge(0, 0);
        Due.due("P19 like, fewer again", x.judged(1), 1);
        Due.due("P20 not the second any more", x.like(1), -1);
    }

    private static void givenIsRoundedDown() {
        SalvageCourt x = new SalvageCourt();
        Due.tellLaw(x, "give mean;else 999;", 0);
        x.value(0, 999, 0, 0);
        x.value(9, 1000, 0, 0);
        Due.due("P18", x.judge(0, 0), 0);
        Due.due("P19 without ships", x.judged(4), 0);
        x.says(0, 0, 1, 1, 1);
        x.sheet(1, 1, 0, 0, 0);
        x.ship(1, 0, 1, 0, 0, 0);
        x.judge(0, 0);
        Due.due("P19 1999 * 999 by 1000", x.judged(4), 1997);
    }

    private static void countsOfOthers() {
        SalvageCourt x = new SalvageCourt();
        Due.due("P24 what -1", x.count(-1), -1);
        Due.due("P24 what 8", x.count(8), -1);
        Due.due("P24 far off", x.count(Integer.MIN_VALUE), -1);
    }

    private static void objectsAreApart() {
        SalvageCourt x = new SalvageCourt();
        x.clock(9);
        x.says(0, 0, 1, 1, 1);
        x.trust(0, 9);
        x.feed(1, 1, 1, 1, 1);
        SalvageCourt y = new SalvageCourt();
        Due.due("P1 clock", y.count(0), 0);
        Due.due("P1 sayings", y.count(1), 0);
        Due.due("P1 tape", y.count(7), 0);
        Due.due("P1 trust", y.trust(0, 1), 5);
    }

    private static void lawsAtTheirFirstAndLastDays() {
        for (int day : new int[] {0, 1, 4999, 5000}) {
            SalvageCourt x = new SalvageCourt();
            x.clock(day);
            Due.tellLaw(x, "give mean;", day);
            Due.due("P18 on its day " + day, x.judge(day, day), 0);
            Due.due("P18 on the last day", x.judge(5000, 5000), 0);
            if (day > 0) {
                Due.due("P18 the day before " + day, x.judge(day, day - 1), 1);
                Due.due("P18 not known the day before " + day, x.judge(day - 1, day), 1);
            }
        }
    }

    private static void theSixthLaw() {
        SalvageCourt x = new SalvageCourt();
        for (int i = 0; i < 6; i++) {
            Due.tellLaw(x, "give mean;else " + i + ";", 9);
        }
        Due.due("P19 the latest told", lawOf(x, 0, 9), 5);
        Due.due("P19 its rate", x.judged(2), 5);
    }

    private static void fewerShipsAreNotKept() {
        SalvageCourt x = new SalvageCourt();
        Due.tellLaw(x, "give mean;", 0);
        x.sheet(1, 1, 0, 0, 0);
        x.judge(0, 0);
        Due.due("P21 no ship yet", x.share(0, 0), -1);
        x.ship(1, 0, 1, 0, 0, 0);
        Due.due("P21 told behind the judgement", x.share(0, 0), -1);
        x.judge(0, 0);
        Due.due("P21 in the next", x.share(0, 0), 0);
        Due.due("P22 in the next", x.hand(0, 0), 0);
    }

    /** The one told later counts of one day, but only where it is known. */
    private static void lawsOfOneDayKnownLater() {
        SalvageCourt x = new SalvageCourt();
        Due.tellLaw(x, "give mean;", 50);
        x.clock(5);
        Due.tellLaw(x, "give mean;", 50);
        Due.tellLaw(x, "give mean;", 49);
        Due.due("P19 as known before", lawOf(x, 4, 50), 0);
        Due.due("P19 as known then", lawOf(x, 5, 50), 1);
        Due.due("P19 the day before", lawOf(x, 5, 49), 2);
        Due.due("P18 the day before, as known before", x.judge(4, 49), 1);
    }

    /** One saying and 510 calls behind it; the last is as right as the first. */
    private static void theLastOfFiveHundredTwelveCalls() {
        SalvageCourt x = new SalvageCourt();
        x.says(0, 0, 1, 3, 4);
        for (int call = 2; call < 512; call += 3) {
            Due.due("P3 call " + call, x.trust(0, 4 + call % 2), call == 2 ? 5 : 5 - call % 2);
            Due.due("P6 call " + (call + 1), x.spans(0, 1, 1), 4);
            Due.due("P7 call " + (call + 2), x.quarrel(), 0);
        }
        Due.due("P5 call 512", x.believed(0), 1);
    }
}
