/** Promises 10 to 12 and 20, and the rate of promise 19: cases, suit, which are like, what is given. */
final class CaseTest {
    public static void main(String[] args) {
        casesHaveBounds();
        fortyCasesAtMost();
        overruledOnce();
        suitHasBounds();
        eachMarkHasItsWeight();
        differencesCountBothWays();
        likeIsNothingWithout();
        ratesOfAnOddNumber();
        ratesOfAnEvenNumber();
        withoutLikeOnes();
        livesAddUpToAThousand();
        overrulingIsKnownFromItsDay();
        Due.finish();
    }

    private static void casesHaveBounds() {
        SalvageCourt x = new SalvageCourt();
        Due.due("P10 least", x.earlier(0, 0, 0), 0);
        Due.due("P10 greatest", x.earlier(99999, 1000, 5000), 1);
        Due.due("P10 marks -1", x.earlier(-1, 0, 0), -1);
        Due.due("P10 marks beyond", x.earlier(100000, 0, 0), -1);
        Due.due("P10 award -1", x.earlier(0, -1, 0), -1);
        Due.due("P10 award beyond", x.earlier(0, 1001, 0), -1);
        Due.due("P10 day -1", x.earlier(0, 0, -1), -1);
        Due.due("P10 day beyond", x.earlier(0, 0, 5001), -1);
        Due.due("P24 cases", x.count(4), 2);
    }

    private static void fortyCasesAtMost() {
        SalvageCourt x = new SalvageCourt();
        for (int i = 0; i < 40; i++) {
            Due.due("P10 case " + i, x.earlier(0, 25 * i, 0), i);
        }
        Due.due("P10 the 41st", x.earlier(0, 0, 0), -1);
        Due.tellLaw(x, "give middle;", 0);
        Due.due("P18", x.judge(0, 0), 0);
        Due.due("P19 all like", x.judged(1), 40);
        Due.due("P19 lower of both", x.judged(2), 19 * 25);
        Due.due("P20 last", x.like(39), 39);
        Due.due("P20 none", x.like(40), -1);
        Due.due("P20 none below", x.like(-1), -1);
    }

    private static void overruledOnce() {
        SalvageCourt x = new SalvageCourt();
        x.earlier(0, 0, 0);
        x.earlier(0, 0, 0);
        Due.due("P11 without it", x.overrule(2, 0), false);
        Due.due("P11 below", x.overrule(-1, 0), false);
        Due.due("P11 day -1", x.overrule(0, -1), false);
        Due.due("P11 day 5001", x.overrule(0, 5001), false);
        Due.due("P11 the wrong ones did nothing", x.overrule(0, 5000), true);
        Due.due("P11 twice", x.overrule(0, 0), false);
        Due.due("P11 another", x.overrule(1, 0), true);
        Due.tellLaw(x, "give mean;", 0);
        x.judge(0, 4999);
        Due.due("P11 the second did nothing", x.judged(1), 1);
        Due.due("P20 the other", x.like(0), 0);
        x.judge(0, 5000);
        Due.due("P11 from its day on", x.judged(1), 0);
    }

    private static void suitHasBounds() {
        SalvageCourt x = new SalvageCourt();
        Due.due("P12 least", x.suit(0, 0), true);
        Due.due("P12 greatest", x.suit(99999, 99), true);
        Due.due("P12 marks -1", x.suit(-1, 0), false);
        Due.due("P12 marks beyond", x.suit(100000, 0), false);
        Due.due("P12 lives -1", x.suit(0, -1), false);
        Due.due("P12 lives beyond", x.suit(0, 100), false);
        x.earlier(99999, 3, 0);
        Due.tellLaw(x, "weigh danger 1;weigh worth 1;give mean;life 1;", 0);
        x.judge(0, 0);
        Due.due("P12 wrong ones did nothing", x.judged(2), 3 + 99);
    }

    private static void eachMarkHasItsWeight() {
        String[] marks = {"danger", "skill", "labour", "weather", "worth"};
        int digit = 10000;
        for (int i = 0; i < 5; i++, digit /= 10) {
            SalvageCourt x = new SalvageCourt();
            x.earlier(3 * digit, 7, 0);
            x.earlier(99999 - 9 * digit, 8, 0);
            Due.tellLaw(x, "weigh " + marks[i] + " 10;like 29;give mean;", 0);
            x.judge(0, 0);
            Due.due("P12 " + marks[i] + ": the distance is 30", x.judged(1), 1);
            Due.due("P20 " + marks[i], x.like(0), 1);
            x.suit(digit, 0);
            x.judge(0, 0);
            Due.due("P12 " + marks[i] + ": the distance is 20", x.judged(1), 2);
        }
    }

    private static void differencesCountBothWays() {
        SalvageCourt x = new SalvageCourt();
        x.earlier(10203, 7, 0);
        x.suit(1, 0);
        Due.tellLaw(x, "weigh danger 99;weigh labour 1;weigh worth 20;like 141;give least;", 0);
        x.judge(0, 0);
        Due.due("P19 99 + 2 + 40 is within", x.judged(1), 1);
        SalvageCourt y = new SalvageCourt();
        y.earlier(10203, 7, 0);
        y.suit(5, 0);
        Due.tellLaw(y, "weigh danger 99;weigh labour 1;weigh worth 20;like 140;give least;", 0);
        y.judge(0, 0);
        Due.due("P19 99 + 2 + 40 is beyond", y.judged(1), 0);
    }

    private static void likeIsNothingWithout() {
        SalvageCourt x = new SalvageCourt();
        x.earlier(1, 7, 0);
        x.earlier(10, 8, 0);
        Due.tellLaw(x, "weigh worth 1;give mean;", 0);
        x.judge(0, 0);
        Due.due("P19 the distance is 1, and 0 without weight", x.judged(1), 1);
        Due.due("P20 the one without", x.like(0), 1);
    }

    private static long rate(String give, int... awards) {
        SalvageCourt x = new SalvageCourt();
        for (int award : awards) {
            x.earlier(0, award, 0);
        }
        Due.tellLaw(x, "give " + give + ";", 0);
        x.judge(0, 0);
        return x.judged(2);
    }

    private static void ratesOfAnOddNumber() {
        Due.due("P19 least", rate("least", 500, 0, 91), 0);
        Due.due("P19 middle", rate("middle", 500, 0, 91), 91);
        Due.due("P19 greatest", rate("greatest", 91, 1000, 0), 1000);
        Due.due("P19 mean", rate("mean", 500, 1, 90), 197);
        Due.due("P19 one alone", rate("middle", 4), 4);
    }

    private static void ratesOfAnEvenNumber() {
        Due.due("P19 lower of both", rate("middle", 9, 3, 8, 1), 3);
        Due.due("P19 lower of two", rate("middle", 9, 3), 3);
        Due.due("P19 mean downwards", rate("mean", 2, 3), 2);
        Due.due("P19 equal ones", rate("middle", 5, 5, 5, 9), 5);
    }

    private static void withoutLikeOnes() {
        Due.due("P19 else without", rate("least"), 100);
        Due.due("P19 else told", rate("mean;else 0"), 0);
        Due.due("P19 else not wanted", rate("mean;else 900", 4), 4);
    }

    private static void livesAddUpToAThousand() {
        SalvageCourt x = new SalvageCourt();
        Due.tellLaw(x, "else 10;life 100;give least;", 0);
        x.suit(0, 9);
        x.judge(0, 0);
        Due.due("P19 nine lives", x.judged(2), 910);
        x.suit(0, 10);
        x.judge(0, 0);
        Due.due("P19 not above 1000", x.judged(2), 1000);
    }

    private static void overrulingIsKnownFromItsDay() {
        SalvageCourt x = new SalvageCourt();
        Due.tellLaw(x, "give mean;", 0);
        x.clock(5);
        x.earlier(0, 40, 30);
        x.clock(8);
        x.overrule(0, 50);
        x.judge(4, 5000);
        Due.due("P19 the case is not known yet", x.judged(1), 0);
        x.judge(5, 29);
        Due.due("P19 the case is not yet", x.judged(1), 0);
        x.judge(5, 30);
        Due.due("P19 the case stands", x.judged(1), 1);
        x.judge(7, 50);
        Due.due("P19 the overruling is not known yet", x.judged(1), 1);
        x.judge(8, 49);
        Due.due("P19 it is not overruled yet", x.judged(1), 1);
        x.judge(8, 50);
        Due.due("P19 it is overruled", x.judged(1), 0);
    }
}
