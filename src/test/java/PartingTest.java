/** Promises 16, 17, 21 and 22: sheet, ship, share, hand. */
final class PartingTest {
    private static final long ONES = 0x1111111111111111L;
    private static final long NINES = 0x9999999999999999L;

    public static void main(String[] args) {
        sheetsHaveBounds();
        wrongSheetChangesNothing();
        shipsHaveBounds();
        eightShipsAtMost();
        eachShipKeepsItsSheet();
        hoursOfOddSpans();
        coinsLeftOverGoByRests();
        equalRestsGoByNumbers();
        lateClaims();
        articlesAreRoundedDown();
        handsHaveTheRest();
        greatestSums();
        sharesOfWrongArguments();
        judgementStandsWhateverIsTold();
        hoursAboutNothing();
        everyHandHasItsWeight();
        sevenCoinsLeftOver();
        noCoinWithoutWeight();
        nothingToGive();
        lateAtItsEnds();
        notMoreThanAll();
        articlesAtTheirEnds();
        coinsLeftToTheFirstHands();
        aLaterSheetIsForLaterShips();
        judgingAgainGivesTheSame();
        Due.finish();
    }

    /** A court with a sum saved, all of it given, and things 0 and 1 the hours apart. */
    private static SalvageCourt court(int sum, int hours, String more) {
        SalvageCourt x = new SalvageCourt();
        Due.tellLaw(x, "give mean;else 1000;" + more, 0);
        x.value(0, sum, 0, 0);
        x.says(0, 0, 1, hours, 10000);
        x.sheet(1, 1, 0, 0, 0);
        return x;
    }

    private static void sheetsHaveBounds() {
        SalvageCourt x = new SalvageCourt();
        Due.due("P16 one hand", x.sheet(1, 1, 0, 0, 0), true);
        Due.due("P16 sixty hands", x.sheet(60, ONES, NINES, ONES, NINES), true);
        Due.due("P16 sixty, nothing behind", x.sheet(60, ONES, NINES, ONES, NINES >>> 16), true);
        Due.due("P16 what is behind is free", x.sheet(2, 0xffffff01L << 4 | 9, -1, -1, -1), true);
        Due.due("P16 no hand", x.sheet(0, ONES, ONES, ONES, ONES), false);
        Due.due("P16 hands below 0", x.sheet(-1, ONES, ONES, ONES, ONES), false);
        Due.due("P16 hands beyond", x.sheet(61, ONES, ONES, ONES, ONES), false);
        Due.due("P16 far off", x.sheet(Integer.MAX_VALUE, ONES, ONES, ONES, ONES), false);
        Due.due("P16 weight 0", x.sheet(1, ONES - 1, ONES, ONES, ONES), false);
        Due.due("P16 weight 10", x.sheet(1, 10, 0, 0, 0), false);
        Due.due("P16 weight 15 highest", x.sheet(16, 0xf111111111111111L, 0, 0, 0), false);
        Due.due("P16 weight 9 highest", x.sheet(16, 0x9111111111111111L, 0, 0, 0), true);
        Due.due("P16 the 17th 0", x.sheet(17, ONES, 0, ONES, ONES), false);
        Due.due("P16 the 33rd 0", x.sheet(33, ONES, ONES, 0, ONES), false);
        Due.due("P16 the 49th 0", x.sheet(49, ONES, ONES, ONES, 0), false);
        Due.due("P16 the 60th 10", x.sheet(60, ONES, ONES, ONES, 0xa11111111111L), false);
        Due.due("P16 the 61st is free", x.sheet(60, ONES, ONES, ONES, 0xf111111111111L), true);
    }

    private static void wrongSheetChangesNothing() {
        SalvageCourt x = court(100, 1, "");
        x.sheet(2, 0x31, 0, 0, 0);
        Due.due("P16 wrong behind two", x.sheet(3, 0x022, 0, 0, 0), false);
        x.ship(1, 0, 1, 0, 0, 0);
        x.judge(0, 0);
        Due.due("P22 first", x.hand(0, 0), 25);
        Due.due("P22 second", x.hand(0, 1), 75);
        Due.due("P22 no third", x.hand(0, 2), -1);
    }

    private static void shipsHaveBounds() {
        SalvageCourt x = new SalvageCourt();
        Due.due("P17 no sheet", x.ship(1, 0, 1, 0, 0, 0), -1);
        x.sheet(0, 0, 0, 0, 0);
        Due.due("P17 a wrong sheet is none", x.ship(1, 0, 1, 0, 0, 0), -1);
        x.sheet(1, 1, 0, 0, 0);
        Due.due("P17 least", x.ship(1, 0, 15, 0, 0, 0), 0);
        Due.due("P17 greatest", x.ship(5000, 15, 0, 5000, 100, 0), 1);
        Due.due("P17 master alone", x.ship(5000, 15, 15, 5000, 0, 100), 2);
        Due.due("P17 tons 0", x.ship(0, 0, 1, 0, 0, 0), -1);
        Due.due("P17 tons beyond", x.ship(5001, 0, 1, 0, 0, 0), -1);
        Due.due("P17 came -1", x.ship(1, -1, 1, 0, 0, 0), -1);
        Due.due("P17 came 16", x.ship(1, 16, 1, 0, 0, 0), -1);
        Due.due("P17 left -1", x.ship(1, 0, -1, 0, 0, 0), -1);
        Due.due("P17 left 16", x.ship(1, 0, 16, 0, 0, 0), -1);
        Due.due("P17 claim -1", x.ship(1, 0, 1, -1, 0, 0), -1);
        Due.due("P17 claim 5001", x.ship(1, 0, 1, 5001, 0, 0), -1);
        Due.due("P17 owner -1", x.ship(1, 0, 1, 0, -1, 50), -1);
        Due.due("P17 master -1", x.ship(1, 0, 1, 0, 50, -1), -1);
        Due.due("P17 together 101", x.ship(1, 0, 1, 0, 51, 50), -1);
        Due.due("P17 owner 101", x.ship(1, 0, 1, 0, 101, 0), -1);
        Due.due("P17 running over", x.ship(1, 0, 1, 0, Integer.MAX_VALUE, Integer.MAX_VALUE), -1);
        Due.due("P17 running under", x.ship(1, 0, 1, 0, Integer.MIN_VALUE, 100), -1);
        Due.due("P17 making up", x.ship(1, 0, 1, 0, 150, -50), -1);
        Due.due("P24 ships", x.count(6), 3);
        Due.due("P17 together 100", x.ship(1, 0, 1, 0, 50, 50), 3);
    }

    private static void eightShipsAtMost() {
        SalvageCourt x = court(1000, 1, "");
        for (int i = 0; i < 8; i++) {
            Due.due("P17 ship " + i, x.ship(1, 0, 1, 0, 0, 0), i);
        }
        Due.due("P17 the ninth", x.ship(1, 0, 1, 0, 0, 0), -1);
        Due.due("P24 ships", x.count(6), 8);
        x.judge(0, 0);
        Due.due("P21 an eighth", x.share(7, 2), 125);
        Due.due("P21 no ninth", x.share(8, 2), -1);
    }

    private static void eachShipKeepsItsSheet() {
        SalvageCourt x = court(100, 1, "");
        x.sheet(2, 0x11, 0, 0, 0);
        x.ship(1, 0, 1, 0, 0, 0);
        x.sheet(3, 0x235, 0, 0, 0);
        x.ship(1, 0, 1, 0, 0, 0);
        x.ship(1, 1, 0, 0, 0, 0);
        x.sheet(1, 9, 0, 0, 0);
        x.judge(0, 0);
        Due.due("P22 first sheet", x.hand(0, 0), 25);
        Due.due("P22 first sheet's end", x.hand(0, 2), -1);
        Due.due("P22 second sheet, lowest bits first", x.hand(1, 0), 25);
        Due.due("P22 second sheet, second", x.hand(1, 1), 15);
        Due.due("P22 second sheet, third", x.hand(1, 2), 10);
        Due.due("P22 same sheet again", x.hand(2, 2), 0);
        Due.due("P22 same sheet again, end", x.hand(2, 3), -1);
    }

    private static void hoursOfOddSpans() {
        SalvageCourt x = court(100, 4, "");
        x.ship(10, 0, 1, 0, 0, 0);
        x.ship(10, 1, 0, 0, 0, 0);
        x.ship(10, 2, 3, 0, 0, 0);
        x.ship(10, 1, 1, 0, 0, 0);
        x.judge(0, 0);
        Due.due("P21 hours", x.share(0, 0), 4);
        Due.due("P21 weight", x.share(0, 1), 40);
        Due.due("P21 all the coins", x.share(0, 2), 100);
        Due.due("P21 below 0", x.share(1, 0), 0);
        Due.due("P21 no weight", x.share(1, 1), 0);
        Due.due("P21 no coins", x.share(1, 2), 0);
        Due.due("P21 no span", x.share(2, 0), 0);
        Due.due("P21 one thing", x.share(3, 0), 0);
        SalvageCourt y = court(100, 0, "");
        y.ship(10, 0, 1, 0, 0, 0);
        y.judge(0, 0);
        Due.due("P19 saved", y.judged(3), 100);
        Due.due("P19 nothing is given without weight", y.judged(4), 0);
        Due.due("P21 nothing", y.share(0, 2), 0);
        Due.due("P22 nothing", y.hand(0, 0), 0);
    }

    private static void coinsLeftOverGoByRests() {
        SalvageCourt x = court(10, 1, "");
        x.ship(3, 0, 1, 0, 0, 0);
        x.ship(5, 0, 1, 0, 0, 0);
        x.ship(4, 0, 1, 0, 0, 0);
        x.judge(0, 0);
        // 30, 50 and 40 by 12: 2 and 6, 4 and 2, 3 and 4.
        Due.due("P21 greatest rest", x.share(0, 2), 3);
        Due.due("P21 least rest", x.share(1, 2), 4);
        Due.due("P21 no second coin", x.share(2, 2), 3);
        SalvageCourt y = court(8, 1, "");
        y.ship(1, 0, 1, 0, 0, 0);
        y.ship(5, 0, 1, 0, 0, 0);
        y.ship(5, 0, 1, 0, 0, 0);
        y.judge(0, 0);
        // 8, 40 and 40 by 11: 0 and 8, 3 and 7, 3 and 7.
        Due.due("P21 first", y.share(0, 2), 1);
        Due.due("P21 of two rests the least number", y.share(1, 2), 4);
        Due.due("P21 the other", y.share(2, 2), 3);
    }

    private static void equalRestsGoByNumbers() {
        SalvageCourt x = court(11, 1, "");
        for (int i = 0; i < 4; i++) {
            x.ship(7, 0, 1, 0, 0, 0);
        }
        x.judge(0, 0);
        for (int i = 0; i < 4; i++) {
            Due.due("P21 ship " + i, x.share(i, 2), i < 3 ? 3 : 2);
        }
    }

    private static void late(int claim, int lost) {
        SalvageCourt x = court(999, 1, "late 300 after 10;");
        x.ship(1, 0, 1, claim, 0, 0);
        x.judge(0, 0);
        Due.due("P21 lost, claim " + claim, x.share(0, 6), lost);
        Due.due("P21 coins, claim " + claim, x.share(0, 2), 999 - lost);
        Due.due("P19 given, claim " + claim, x.judged(4), 999);
        Due.due("P19 goes back, claim " + claim, x.judged(5), lost);
    }

    private static void lateClaims() {
        late(0, 0);
        late(10, 0);
        late(39, 0);
        late(40, 299);
        late(69, 299);
        late(70, 599);
        late(100, 899);
        late(130, 999);
        late(5000, 999);
        SalvageCourt x = court(1000, 1, "late 1 after 0;");
        x.ship(1, 0, 1, 30, 0, 0);
        x.ship(1, 0, 1, 90, 0, 0);
        x.ship(2, 0, 1, 5000, 0, 0);
        x.judge(0, 0);
        Due.due("P21 below a coin", x.share(0, 6), 0);
        Due.due("P21 166 thousandths of 500", x.share(2, 6), 83);
        Due.due("P19 goes back", x.judged(5), 83);
        SalvageCourt y = court(1000, 1, "");
        y.ship(1, 0, 1, 5000, 0, 0);
        y.judge(0, 0);
        Due.due("P21 without late", y.share(0, 6), 0);
    }

    private static void articlesAreRoundedDown() {
        SalvageCourt x = court(199, 1, "late 10 after 0;");
        x.ship(1, 0, 1, 30, 33, 17);
        x.judge(0, 0);
        Due.due("P21 behind late", x.share(0, 2), 198);
        Due.due("P21 owner", x.share(0, 3), 65);
        Due.due("P21 master", x.share(0, 4), 33);
        Due.due("P21 hands", x.share(0, 5), 100);
        Due.due("P21 lost", x.share(0, 6), 1);
        SalvageCourt y = court(99, 1, "");
        y.ship(1, 0, 1, 0, 50, 50);
        y.judge(0, 0);
        Due.due("P21 a coin is left to the hands", y.share(0, 5), 1);
        Due.due("P22 the first has it", y.hand(0, 0), 1);
    }

    private static void handsHaveTheRest() {
        SalvageCourt x = court(105, 1, "");
        x.sheet(4, 0x9128, 0, 0, 0);
        x.ship(1, 0, 1, 0, 0, 0);
        x.judge(0, 0);
        // 105 * 8, 2, 1 and 9 by 20: 42, 10, 5, 47, one coin left over.
        Due.due("P22 first, with the coin", x.hand(0, 0), 43);
        Due.due("P22 second", x.hand(0, 1), 10);
        Due.due("P22 third", x.hand(0, 2), 5);
        Due.due("P22 fourth", x.hand(0, 3), 47);
        SalvageCourt y = court(59, 1, "");
        y.sheet(60, ONES, ONES, ONES, ONES);
        y.ship(1, 0, 1, 0, 0, 0);
        y.judge(0, 0);
        Due.due("P22 the 59th", y.hand(0, 58), 1);
        Due.due("P22 the 60th", y.hand(0, 59), 0);
        Due.due("P22 no 61st", y.hand(0, 60), -1);
        Due.due("P22 none below", y.hand(0, -1), -1);
    }

    private static void greatestSums() {
        SalvageCourt x = court(1000000, 0, "");
        for (int good = 1; good < 10; good++) {
            x.value(good, 1000000, 0, 0);
        }
        for (int i = 1; i < 15; i++) {
            x.says(0, i, i + 1, 10000, 10000);
        }
        x.says(1, 0, 1, 10000, 10000);
        x.sheet(60, NINES, NINES, NINES, NINES);
        for (int i = 0; i < 8; i++) {
            x.ship(5000, 0, 15, 0, 0, 0);
        }
        x.judge(0, 0);
        Due.due("P19 saved", x.judged(3), 10000000);
        Due.due("P19 given", x.judged(4), 10000000);
        Due.due("P21 hours", x.share(7, 0), 150000);
        Due.due("P21 weight", x.share(7, 1), 750000000);
        Due.due("P21 coins", x.share(7, 2), 1250000);
        Due.due("P22 coins", x.hand(7, 19), 20834);
        Due.due("P22 coins", x.hand(7, 20), 20833);
    }

    private static void sharesOfWrongArguments() {
        SalvageCourt x = court(1, 1, "");
        x.ship(1, 0, 1, 0, 0, 0);
        Due.due("P21 ahead of any judgement", x.share(0, 0), -1);
        Due.due("P22 ahead of any judgement", x.hand(0, 0), -1);
        x.judge(0, 0);
        Due.due("P21 ship -1", x.share(-1, 0), -1);
        Due.due("P21 ship 1", x.share(1, 0), -1);
        Due.due("P21 what -1", x.share(0, -1), -1);
        Due.due("P21 what 7", x.share(0, 7), -1);
        Due.due("P22 ship -1", x.hand(-1, 0), -1);
        Due.due("P22 ship 1", x.hand(1, 0), -1);
        Due.due("P22 ship far off", x.hand(Integer.MAX_VALUE, Integer.MIN_VALUE), -1);
    }

    private static void judgementStandsWhateverIsTold() {
        SalvageCourt x = court(100, 3, "");
        x.ship(2, 0, 1, 0, 10, 20);
        x.judge(0, 0);
        x.ship(2, 0, 1, 0, 10, 20);
        x.value(0, 700, 0, 0);
        x.says(0, 0, 1, 9, 9);
        x.earlier(0, 5, 0);
        x.suit(0, 5);
        x.sheet(2, 0x11, 0, 0, 0);
        Due.due("P21 no new ship", x.share(1, 0), -1);
        Due.due("P22 no new ship", x.hand(1, 0), -1);
        Due.due("P21 hours as they were", x.share(0, 0), 3);
        Due.due("P21 coins as they were", x.share(0, 2), 100);
        Due.due("P22 hands as they were", x.hand(0, 0), 70);
        Due.due("P22 no new hand", x.hand(0, 1), -1);
        Due.due("P19 saved as it was", x.judged(3), 100);
        Due.due("P19 like as it was", x.judged(1), 0);
        Due.due("P20 like as it was", x.like(0), -1);
        Due.due("P23 saved now", x.saved(0, 0, 0), 700);
    }

    private static void hoursAboutNothing() {
        for (int hours = -1; hours <= 1; hours++) {
            SalvageCourt x = court(100, hours, "");
            x.ship(5000, 0, 1, 0, 0, 0);
            x.judge(0, 0);
            int due = Math.max(0, hours);
            Due.due("P21 hours of " + hours, x.share(0, 0), due);
            Due.due("P21 weight of " + hours, x.share(0, 1), 5000 * due);
            Due.due("P21 coins of " + hours, x.share(0, 2), 100 * due);
            Due.due("P19 given of " + hours, x.judged(4), 100 * due);
        }
    }

    /** Weights 1 to 9 in turn; as many coins as weights, so that each hand has just its own. */
    private static void everyHandHasItsWeight() {
        for (int hands : new int[] {1, 15, 16, 17, 31, 32, 33, 47, 48, 49, 59, 60}) {
            long[] words = new long[4];
            int sum = 0;
            for (int k = 0; k < hands; k++) {
                words[k / 16] |= (k % 9 + 1L) << 4 * (k % 16);
                sum += k % 9 + 1;
            }
            SalvageCourt x = court(sum, 1, "");
            Due.due("P16 hands " + hands, x.sheet(hands, words[0], words[1], words[2], words[3]), true);
            x.ship(1, 0, 1, 0, 0, 0);
            x.judge(0, 0);
            for (int k = 0; k < hands; k++) {
                Due.due("P22 hand " + k + " of " + hands, x.hand(0, k), k % 9 + 1);
            }
            Due.due("P22 no hand behind " + hands, x.hand(0, hands), -1);
        }
    }

    private static void sevenCoinsLeftOver() {
        for (int sum = 0; sum <= 16; sum++) {
            SalvageCourt x = court(sum, 1, "");
            for (int i = 0; i < 8; i++) {
                x.ship(3, 0, 1, 0, 0, 0);
            }
            x.judge(0, 0);
            for (int i = 0; i < 8; i++) {
                Due.due("P21 ship " + i + " of " + sum, x.share(i, 2), sum / 8 + (i < sum % 8 ? 1 : 0));
            }
        }
    }

    private static void noCoinWithoutWeight() {
        SalvageCourt x = court(1, 1, "");
        x.ship(5000, 1, 0, 0, 0, 0);
        x.ship(1, 0, 1, 0, 0, 0);
        x.ship(1, 0, 1, 0, 0, 0);
        x.judge(0, 0);
        Due.due("P21 none for no weight", x.share(0, 2), 0);
        Due.due("P21 the coin for the first with weight", x.share(1, 2), 1);
        Due.due("P21 none for the second", x.share(2, 2), 0);
    }

    private static void nothingToGive() {
        SalvageCourt x = court(0, 1, "");
        x.ship(1, 0, 1, 5000, 50, 0);
        x.judge(0, 0);
        Due.due("P21 a weight all the same", x.share(0, 1), 1);
        for (int what = 2; what < 7; what++) {
            Due.due("P21 nothing saved, what " + what, x.share(0, what), 0);
        }
        Due.due("P22 nothing saved", x.hand(0, 0), 0);
        SalvageCourt y = court(1000, 1, "");
        y.ship(1, 0, 1, 0, 0, 0);
        y.earlier(0, 0, 0);
        y.judge(0, 0);
        Due.due("P19 a rate of 0", y.judged(2), 0);
        Due.due("P19 nothing given", y.judged(4), 0);
        Due.due("P19 saved all the same", y.judged(3), 1000);
    }

    private static long lost(int sum, String late, int claim) {
        SalvageCourt x = court(sum, 1, late);
        x.ship(1, 0, 1, claim, 0, 0);
        x.judge(0, 0);
        Due.due("P21 coins and lost ones, " + late + " " + claim, x.share(0, 2) + x.share(0, 6), sum);
        Due.due("P19 goes back, " + late + " " + claim, x.judged(5), x.share(0, 6));
        return x.share(0, 6);
    }

    private static void lateAtItsEnds() {
        Due.due("P21 29 days", lost(10, "late 1000 after 0;", 29), 0);
        Due.due("P21 30 days", lost(10, "late 1000 after 0;", 30), 10);
        Due.due("P21 after 4970", lost(10, "late 1000 after 4970;", 5000), 10);
        Due.due("P21 after 4971", lost(10, "late 1000 after 4971;", 5000), 0);
        Due.due("P21 after 5000", lost(10, "late 1000 after 5000;", 5000), 0);
        Due.due("P21 after 5000, at once", lost(10, "late 1000 after 5000;", 0), 0);
        Due.due("P21 just after", lost(10, "late 1000 after 100;", 100), 0);
        Due.due("P21 late 0", lost(10, "late 0 after 0;", 5000), 0);
        Due.due("P21 59 days", lost(1000, "late 1 after 0;", 59), 1);
        Due.due("P21 60 days", lost(1000, "late 1 after 0;", 60), 2);
        Due.due("P21 166 times 30 days", lost(1000, "late 1 after 0;", 5000), 166);
    }

    private static void notMoreThanAll() {
        Due.due("P21 999 thousandths", lost(1000, "late 333 after 0;", 90), 999);
        Due.due("P21 1000 thousandths", lost(1000, "late 250 after 0;", 120), 1000);
        Due.due("P21 1002 thousandths", lost(1000, "late 334 after 0;", 90), 1000);
        Due.due("P21 166000 thousandths", lost(1000000, "late 1000 after 0;", 5000), 1000000);
        Due.due("P21 999 thousandths of a coin", lost(1, "late 333 after 0;", 90), 0);
        Due.due("P21 1000 thousandths of a coin", lost(1, "late 500 after 0;", 60), 1);
        Due.due("P21 rounded once, not each time", lost(15, "late 100 after 0;", 60), 3);
    }

    private static void articles(int sum, int owner, int master, long[] due) {
        SalvageCourt x = court(sum, 1, "");
        x.ship(1, 0, 1, 0, owner, master);
        x.judge(0, 0);
        for (int what = 3; what <= 5; what++) {
            Due.due("P21 what " + what + " of " + sum + " by " + owner + " and " + master,
                    x.share(0, what), due[what - 3]);
        }
        Due.due("P22 the only hand of " + sum, x.hand(0, 0), due[2]);
    }

    private static void articlesAtTheirEnds() {
        articles(77, 0, 0, new long[] {0, 0, 77});
        articles(77, 100, 0, new long[] {77, 0, 0});
        articles(77, 0, 100, new long[] {0, 77, 0});
        articles(77, 99, 1, new long[] {76, 0, 1});
        articles(1, 50, 50, new long[] {0, 0, 1});
        articles(1, 99, 0, new long[] {0, 0, 1});
        articles(100, 1, 1, new long[] {1, 1, 98});
        articles(99, 1, 1, new long[] {0, 0, 99});
        articles(1000000, 33, 33, new long[] {330000, 330000, 340000});
    }

    private static void coinsLeftToTheFirstHands() {
        for (int sum = 0; sum <= 8; sum++) {
            SalvageCourt x = court(sum, 1, "");
            x.sheet(4, 0x9999, 0, 0, 0);
            x.ship(1, 0, 1, 0, 0, 0);
            x.judge(0, 0);
            for (int k = 0; k < 4; k++) {
                Due.due("P22 hand " + k + " of " + sum, x.hand(0, k), sum / 4 + (k < sum % 4 ? 1 : 0));
            }
        }
        SalvageCourt y = court(1, 1, "");
        y.sheet(2, 0x91, 0, 0, 0);
        y.ship(1, 0, 1, 0, 0, 0);
        y.judge(0, 0);
        Due.due("P22 the first, though it weighs less", y.hand(0, 0), 1);
        Due.due("P22 not the greater rest", y.hand(0, 1), 0);
    }

    private static void aLaterSheetIsForLaterShips() {
        SalvageCourt x = court(30, 1, "");
        x.sheet(3, 0x111, 0, 0, 0);
        x.ship(1, 0, 1, 0, 0, 0);
        x.judge(0, 0);
        x.sheet(1, 1, 0, 0, 0);
        Due.due("P22 as judged", x.hand(0, 2), 10);
        x.judge(0, 0);
        Due.due("P22 the ship keeps its sheet", x.hand(0, 2), 10);
        x.ship(2, 0, 1, 0, 0, 0);
        x.judge(0, 0);
        Due.due("P22 the ship told first", x.hand(0, 2), 3);
        Due.due("P22 the ship told later", x.hand(1, 0), 20);
        Due.due("P22 has one hand", x.hand(1, 1), -1);
    }

    private static void judgingAgainGivesTheSame() {
        SalvageCourt x = court(1001, 1, "late 100 after 0;");
        x.sheet(3, 0x211, 0, 0, 0);
        x.ship(1, 0, 1, 30, 10, 10);
        x.ship(1, 0, 1, 60, 0, 50);
        for (int i = 0; i < 3; i++) {
            x.judge(0, 0);
            Due.due("P19 given", x.judged(4), 1001);
            Due.due("P19 goes back", x.judged(5), 50 + 100);
            Due.due("P21 lost", x.share(0, 6), 50);
            Due.due("P21 coins", x.share(0, 2), 451);
            Due.due("P21 coins of the second", x.share(1, 2), 400);
            Due.due("P22 coins, with one left over", x.hand(0, 0), 91);
            Due.due("P22 coins", x.hand(1, 2), 100);
        }
    }
}
