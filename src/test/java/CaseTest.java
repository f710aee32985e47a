/** Promises 10 to 12 and 20, and the rate of promise 19: cases, suit, which are like, what is given. */
final class CaseTest {
    public static void main(String[] args) {
        casesHaveBounds();
        fortyCasesAtMost();
        overruledOnce();
        suitHasBounds();
        eachMarkHasItsWeight();
        differencesCountBothWays();
        likeIsNothingWithout();
        ratesOfAnOddNumber();
        ratesOfAnEvenNumber();
        withoutLikeOnes();
        livesAddUpToAThousand();
        overrulingIsKnownFromItsDay();
        greatestDistance();
        distanceJustAtLike();
        ratesAtTheirEnds();
        livesUpToNinetyNine();
        elseAndLives();
        casesFromTheirDay();
        overruledFromTheFirstDay();
        overruledOnTheLastDay();
        meanOfForty();
        middleOfEachNumber();
        suitIsNothingAtFirst();
        Due.finish();
    }

    private static void casesHaveBounds() {
        SalvageCourt x = new SalvageCourt();
        Due.due("P10 least", x.earlier(0, 0, 0), 0);
        Due.due("P10 greatest", x.earlier(99999, 1000, 5000), 1);
        Due.due("P10 marks -1", x.earlier(-1, 0, 0), -1);
        Due.due("P10 marks beyond", x.earlier(100000, 0, 0), -1);
        Due.due("P10 award -1", x.earlier(0, -1, 0), -1);
        Due.due("P10 award beyond", x.earlier(0, 1001, 0), -1);
        Due.due("P10 day -1", x.earlier(0, 0, -1), -1);
        Due.due("P10 day beyond", x.earlier(0, 0, 5001), -1);
        Due.due("P24 cases", x.count(4), 2);
    }

    private static void fortyCasesAtMost() {
        SalvageCourt x = new SalvageCourt();
        for (int i = 0; i < 40; i++) {
            Due.due("P10 case " + i, x.earlier(0, 25 * i, 0), i);
        }
        Due.due("P10 the 41st", x.earlier(0, 0, 0), -1);
        Due.tellLaw(x, "give middle;", 0);
        Due.due("P18", x.judge(0, 0), 0);
        Due.due("P19 all like", x.judged(1), 40);
        Due.due("P19 lower of both", x.judged(2), 19 * 25);
        Due.due("P20 last", x.like(39), 39);
        Due.due("P20 none", x.like(40), -1);
        Due.due("P20 none below", x.like(-1), -1);
    }

    private static void overruledOnce() {
        SalvageCourt x = new SalvageCourt();
        x.earlier(0, 0, 0);
        x.earlier(0, 0, 0);
        Due.due("P11 without it", x.overrule(2, 0), false);
        Due.due("P11 below", x.overrule(-1, 0), false);
        Due.due("P11 day -1", x.overrule(0, -1), false);
        Due.due("P11 day 5001", x.overrule(0, 5001), false);
        Due.due("P11 the wrong ones did nothing", x.overrule(0, 5000), true);
        Due.due("P11 twice", x.overrule(0, 0), false);
        Due.due("P11 another", x.overrule(1, 0), true);
        Due.tellLaw(x, "give mean;", 0);
        x.judge(0, 4999);
        Due.due("P11 the second did nothing", x.judged(1), 1);
        Due.due("P20 the other", x.like(0), 0);
        x.judge(0, 5000);
        Due.due("P11 from its day on", x.judged(1), 0);
    }

    private static void suitHasBounds() {
        SalvageCourt x = new SalvageCourt();
        Due.due("P12 least", x.suit(0, 0), true);
        Due.due("P12 greatest", x.suit(99999, 99), true);
        Due.due("P12 marks -1", x.suit(-1, 0), false);
        Due.due("P12 marks beyond", x.suit(100000, 0), false);
        Due.due("P12 lives -1", x.suit(0, -1), false);
        Due.due("P12 lives beyond", x.suit(0, 100), false);
        x.earlier(99999, 3, 0);
        Due.tellLaw(x, "weigh danger 1;weigh worth 1;give mean;life 1;", 0);
        x.judge(0, 0);
        Due.due("P12 wrong ones did nothing", x.judged(2), 3 + 99);
    }

    private static void eachMarkHasItsWeight() {
        String[] marks = {"danger", "skill", "labour", "weather", "worth"};
        int digit = 10000;
        for (int i = 0; i < 5; i++, digit /= 10) {
            SalvageCourt x = new SalvageCourt();
            x.earlier(3 * digit, 7, 0);
            x.earlier(99999 - 9 * digit, 8, 0);
            Due.tellLaw(x, "weigh " + marks[i] + " 10;like 29;give mean;", 0);
            x.judge(0, 0);
            Due.due("P12 " + marks[i] + ": the distance is 30", x.judged(1), 1);
            Due.due("P20 " + marks[i], x.like(0), 1);
            x.suit(digit, 0);
            x.judge(0, 0);
            Due.due("P12 " + marks[i] + ": the distance is 20", x.judged(1), 2);
        }
    }

    private static void differencesCountBothWays() {
        SalvageCourt x = new SalvageCourt();
        x.earlier(10203, 7, 0);
        x.suit(1, 0);
        Due.tellLaw(x, "weigh danger 99;weigh labour 1;weigh worth 20;like 141;give least;", 0);
        x.judge(0, 0);
        Due.due("P19 99 + 2 + 40 is within", x.judged(1), 1);
        SalvageCourt y = new SalvageCourt();
        y.earlier(10203, 7, 0);
        y.suit(5, 0);
        Due.tellLaw(y, "weigh danger 99;weigh labour 1;weigh worth 20;like 140;give least;", 0);
        y.judge(0, 0);
        Due.due("P19 99 + 2 + 40 is beyond", y.judged(1), 0);
    }

    private static void likeIsNothingWithout() {
        SalvageCourt x = new SalvageCourt();
        x.earlier(1, 7, 0);
        x.earlier(10, 8, 0);
        Due.tellLaw(x, "weigh worth 1;give mean;", 0);
        x.judge(0, 0);
        Due.due("P19 the distance is 1, and 0 without weight", x.judged(1), 1);
        Due.due("P20 the one without", x.like(0), 1);
    }

    private static long rate(String give, int... awards) {
        SalvageCourt x = new SalvageCourt();
        for (int award : awards) {
            x.earlier(0, award, 0);
        }
        Due.tellLaw(x, "give " + give + ";", 0);
        x.judge(0, 0);
        return x.judged(2);
    }

    private static void ratesOfAnOddNumber() {
        Due.due("P19 least", rate("least", 500, 0, 91), 0);
        Due.due("P19 middle", rate("middle", 500, 0, 91), 91);
        Due.due("P19 greatest", rate("greatest", 91, 1000, 0), 1000);
        Due.due("P19 mean", rate("mean", 500, 1, 90), 197);
        Due.due("P19 one alone", rate("middle", 4), 4);
    }

    private static void ratesOfAnEvenNumber() {
        Due.due("P19 lower of both", rate("middle", 9, 3, 8, 1), 3);
        Due.due("P19 lower of two", rate("middle", 9, 3), 3);
        Due.due("P19 mean downwards", rate("mean", 2, 3), 2);
        Due.due("P19 equal ones", rate("middle", 5, 5, 5, 9), 5);
    }

    private static void withoutLikeOnes() {
        Due.due("P19 else without", rate("least"), 100);
        Due.due("P19 else told", rate("mean;else 0"), 0);
        Due.due("P19 else not wanted", rate("mean;else 900", 4), 4);
    }

    private static void livesAddUpToAThousand() {
        SalvageCourt x = new SalvageCourt();
        Due.tellLaw(x, "else 10;life 100;give least;", 0);
        x.suit(0, 9);
        x.judge(0, 0);
        Due.due("P19 nine lives", x.judged(2), 910);
        x.suit(0, 10);
        x.judge(0, 0);
        Due.due("P19 not above 1000", x.judged(2), 1000);
    }

    private static void overrulingIsKnownFromItsDay() {
        SalvageCourt x = new SalvageCourt();
        Due.tellLaw(x, "give mean;", 0);
        x.clock(5);
        x.earlier(0, 40, 30);
        x.clock(8);
        x.overrule(0, 50);
        x.judge(4, 5000);
        Due.due("P19 the case is not known yet", x.judged(1), 0);
        x.judge(5, 29);
        Due.due("P19 the case is not yet", x.judged(1), 0);
        x.judge(5, 30);
        Due.due("P19 the case stands", x.judged(1), 1);
        x.judge(7, 50);
        Due.due("P19 the overruling is not known yet", x.judged(1), 1);
        x.judge(8, 49);
        Due.due("P19 it is not overruled yet", x.judged(1), 1);
        x.judge(8, 50);
        Due.due("P19 it is overruled", x.judged(1), 0);
    }

    private static final String ALL_WEIGHTS =
            "weigh danger 99;weigh skill 99;weigh labour 99;weigh weather 99;weigh worth 99;give least;";

    /** Five times 9 times 99. */
    private static void greatestDistance() {
        for (int like = 4454; like <= 4455; like++) {
            SalvageCourt x = new SalvageCourt();
            x.earlier(99999, 0, 0);
            Due.tellLaw(x, ALL_WEIGHTS + "like " + like + ";", 0);
            x.judge(0, 0);
            Due.due("P19 like " + like, x.judged(1), like - 4454);
            x.suit(99999, 0);
            x.judge(0, 0);
            Due.due("P19 no distance", x.judged(1), 1);
        }
    }

    private static void distanceJustAtLike() {
        for (int like = 0; like <= 9; like++) {
            SalvageCourt x = new SalvageCourt();
            for (int mark = 0; mark <= 9; mark++) {
                x.earlier(mark, 0, 0);
            }
            Due.tellLaw(x, "weigh worth 1;give least;like " + like + ";", 0);
            x.judge(0, 0);
            Due.due("P19 distances up to " + like, x.judged(1), like + 1);
            Due.due("P20 the farthest", x.like(like), like);
            x.suit(9, 0);
            x.judge(0, 0);
            Due.due("P19 distances up to " + like + ", from above", x.judged(1), like + 1);
            Due.due("P20 the farthest, from above", x.like(0), 9 - like);
        }
    }

    private static void ratesAtTheirEnds() {
        for (String give : new String[] {"least", "middle", "greatest", "mean"}) {
            Due.due("P19 " + give + " of 0", rate(give, 0), 0);
            Due.due("P19 " + give + " of 1000", rate(give, 1000), 1000);
            Due.due("P19 " + give + " of 1000 twice", rate(give, 1000, 1000), 1000);
        }
        Due.due("P19 mean of 0 and 1", rate("mean", 0, 1), 0);
        Due.due("P19 mean of 999 and 1000", rate("mean", 999, 1000), 999);
        Due.due("P19 else 1000", rate("mean;else 1000"), 1000);
        Due.due("P19 a case of 0 is one", rate("mean;else 1000", 0), 0);
    }

    private static long rateOfLives(String law, int lives) {
        SalvageCourt x = new SalvageCourt();
        Due.tellLaw(x, law, 0);
        x.suit(0, lives);
        x.judge(0, 0);
        return x.judged(2);
    }

    private static void livesUpToNinetyNine() {
        Due.due("P19 no life", rateOfLives("give mean;else 3;life 100;", 0), 3);
        Due.due("P19 one life", rateOfLives("give mean;else 3;life 100;", 1), 103);
        Due.due("P19 99 lives", rateOfLives("give mean;else 3;life 1;", 99), 102);
        Due.due("P19 99 lives of 100", rateOfLives("give mean;else 1000;life 100;", 99), 1000);
        Due.due("P19 99 lives of 0", rateOfLives("give mean;else 3;life 0;", 99), 3);
        Due.due("P19 99 lives without life", rateOfLives("give mean;else 3;", 99), 3);
    }

    private static void elseAndLives() {
        Due.due("P19 just below 1000", rateOfLives("give mean;else 9;life 10;", 99), 999);
        Due.due("P19 just 1000", rateOfLives("give mean;else 10;life 10;", 99), 1000);
        Due.due("P19 just above 1000", rateOfLives("give mean;else 11;life 10;", 99), 1000);
        SalvageCourt x = new SalvageCourt();
        x.earlier(0, 600, 0);
        x.suit(0, 4);
        Due.tellLaw(x, "give mean;life 100;", 0);
        x.judge(0, 0);
        Due.due("P19 lives on top of a case", x.judged(2), 1000);
        x.suit(0, 5);
        x.judge(0, 0);
        Due.due("P19 lives on top of a case, not above", x.judged(2), 1000);
    }

    private static void casesFromTheirDay() {
        for (int day : new int[] {0, 1, 4999, 5000}) {
            SalvageCourt x = new SalvageCourt();
            Due.tellLaw(x, "give mean;", 0);
            x.clock(day);
            x.earlier(0, 7, day);
            x.judge(day, day);
            Due.due("P19 on its day " + day, x.judged(1), 1);
            if (day > 0) {
                x.judge(day, day - 1);
                Due.due("P19 the day before " + day, x.judged(1), 0);
                x.judge(day - 1, day);
                Due.due("P19 not known the day before " + day, x.judged(1), 0);
            }
        }
    }

    private static void overruledFromTheFirstDay() {
        SalvageCourt x = new SalvageCourt();
        Due.tellLaw(x, "give mean;", 0);
        x.earlier(0, 7, 30);
        x.overrule(0, 0);
        x.judge(0, 30);
        Due.due("P11 overruled from a day ahead of the case's", x.judged(1), 0);
        x.judge(5000, 5000);
        Due.due("P11 overruled for good", x.judged(1), 0);
    }

    private static void overruledOnTheLastDay() {
        SalvageCourt x = new SalvageCourt();
        Due.tellLaw(x, "give mean;", 0);
        x.earlier(0, 7, 0);
        x.clock(5000);
        x.overrule(0, 5000);
        x.judge(4999, 5000);
        Due.due("P11 not known the day before", x.judged(1), 1);
        x.judge(5000, 4999);
        Due.due("P11 not so the day before", x.judged(1), 1);
        x.judge(5000, 5000);
        Due.due("P11 on the last day", x.judged(1), 0);
        Due.due("P11 once each", x.overrule(0, 0), false);
    }

    private static void meanOfForty() {
        SalvageCourt x = new SalvageCourt();
        Due.tellLaw(x, "give mean;", 0);
        for (int i = 0; i < 40; i++) {
            x.earlier(0, i == 17 ? 999 : 1000, 0);
        }
        x.judge(0, 0);
        Due.due("P19 39999 by 40", x.judged(2), 999);
        x.overrule(17, 0);
        x.judge(0, 0);
        Due.due("P19 39000 by 39", x.judged(2), 1000);
        Due.due("P20 the one behind", x.like(17), 18);
        Due.due("P20 no 40th", x.like(39), -1);
    }

    private static void middleOfEachNumber() {
        SalvageCourt x = new SalvageCourt();
        Due.tellLaw(x, "give middle;", 0);
        for (int n = 1; n <= 40; n++) {
            // Told from the greatest down, so that what is told first is not the least.
            x.earlier(0, 1000 - n, 0);
            x.judge(0, 0);
            Due.due("P19 middle of " + n, x.judged(2), 1000 - n + (n - 1) / 2);
        }
    }

    private static void suitIsNothingAtFirst() {
        SalvageCourt x = new SalvageCourt();
        x.earlier(0, 7, 0);
        x.earlier(10000, 8, 0);
        x.earlier(1, 8, 0);
        Due.tellLaw(x, ALL_WEIGHTS + "life 9;", 0);
        x.judge(0, 0);
        Due.due("P12 marks 0 at first", x.judged(1), 1);
        Due.due("P12 lives 0 at first", x.judged(2), 7);
    }
}
