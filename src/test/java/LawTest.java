/** Promises 13 to 15: feed, end, law and its faults. */
final class LawTest {
    public static void main(String[] args) {
        tapeHasThreeHundredBytes();
        bytesComeHighestFirst();
        endCutsAndNeverLengthens();
        wellToldTexts();
        bytesThatCannotBeSo();
        numbersNotAsTold();
        toldTwice();
        withoutGive();
        theFirstFaultCounts();
        faultsEmptyTheTape();
        sixLawsAtMost();
        longestText();
        bytesBehindTheEndAreGone();
        numbersOfOneToFourDigits();
        numbersAtTheirEnds();
        bytesBesideThoseThatCanBe();
        firstBytes();
        faultsAtTheirLastPlaces();
        longestTextOfClauses();
        whatIsNotTold();
        aFaultyLawIsNone();
        Due.finish();
    }

    private static int told(String text) {
        return Due.tellLaw(new SalvageCourt(), text, 0);
    }

    private static void fault(String text, int kind, int place) {
        Due.due("P15 '" + text + "'", told(text), -2 - (kind + 4 * place));
    }

    private static void fine(String text) {
        Due.due("P15 '" + text + "'", told(text), 0);
    }

    private static void tapeHasThreeHundredBytes() {
        SalvageCourt x = new SalvageCourt();
        for (int n = 20; n <= 300; n += 20) {
            Due.due("P13 feed", x.feed(0, 0, 0, 0, 0), n);
        }
        Due.due("P13 too many", x.feed(0, 0, 0, 0, 0), -1);
        Due.due("P24 bytes", x.count(7), 300);
        Due.due("P14", x.end(281), 281);
        Due.due("P13 one too many", x.feed(0, 0, 0, 0, 0), -1);
        Due.due("P24 none came", x.count(7), 281);
        Due.due("P14", x.end(280), 280);
        Due.due("P13 just room", x.feed(0, 0, 0, 0, 0), 300);
    }

    private static void bytesComeHighestFirst() {
        SalvageCourt x = new SalvageCourt();
        x.feed(0x67697665, 0x206d6561, 0x6e3b2020, 0x6c696b65, 0x3320203b);
        Due.due("P13 'give mean;  like3  ;'", x.law(0), 0);
        x.feed(0x67697665, 0x206d6561, 0x6e3b2020, 0x6c696b65, 0x332020bb);
        Due.due("P13 the last byte is not ;", x.law(0), -2 - (1 + 4 * 19));
        x.feed(0xe7697665, 0, 0, 0, 0);
        Due.due("P13 the first byte is not g", x.law(0), -2 - 1);
    }

    private static void endCutsAndNeverLengthens() {
        SalvageCourt x = new SalvageCourt();
        Due.due("P14 empty", x.end(0), 0);
        Due.due("P14 below 0", x.end(-1), -1);
        Due.due("P14 not so many", x.end(1), -1);
        x.feed(1, 2, 3, 4, 5);
        Due.due("P14 all", x.end(20), 20);
        Due.due("P14 beyond", x.end(21), -1);
        Due.due("P14 far off", x.end(Integer.MAX_VALUE), -1);
        Due.due("P14 far below", x.end(Integer.MIN_VALUE), -1);
        Due.due("P24 unchanged", x.count(7), 20);
        Due.due("P14 cut", x.end(3), 3);
        Due.due("P14 what is cut is gone", x.end(20), -1);
        Due.due("P24 cut", x.count(7), 3);
    }

    private static void wellToldTexts() {
        fine("give least;");
        fine("give middle;");
        fine("give greatest;");
        fine("give mean;");
        fine("   give   mean   ;   ");
        fine("give mean;like 0;else 0;life 0;late 0 after 0;");
        fine("give mean;like 9999;else 1000;life 100;late 1000 after 5000;");
        fine("weigh danger 0;weigh skill 1;weigh labour 99;weigh weather 7;weigh worth 50;give mean;");
        fine("give mean;like 0001;");
        fine("give mean;weigh danger 0099;");
        fine("give mean;late5after7;like3;weigh skill3;");
    }

    private static void bytesThatCannotBeSo() {
        fault("gave mean;", 1, 0);
        fault("  gave mean;", 1, 2);
        fault("gives mean;", 1, 0);
        fault("giv mean;", 1, 0);
        fault("Give mean;", 1, 0);
        fault("givE mean;", 1, 0);
        fault(";", 1, 0);
        fault("give mean;;", 1, 10);
        fault("give mean; ;", 1, 11);
        fault("3;", 1, 0);
        fault("after 3;", 1, 0);
        fault("danger 3;", 1, 0);
        fault("mean;", 1, 0);
        fault("givemean;", 1, 0);
        fault("give", 1, 4);
        fault("give ", 1, 5);
        fault("give;", 1, 4);
        fault("give 3;", 1, 5);
        fault("give means;", 1, 5);
        fault("give mea;", 1, 5);
        fault("give meaN;", 1, 5);
        fault("give meanN;", 1, 9);
        fault("give mean", 1, 9);
        fault("give mean  ", 1, 11);
        fault("give mean mean;", 1, 10);
        fault("give mean,", 1, 9);
        fault("give\tmean;", 1, 4);
        fault("give mean;\n", 1, 10);
        fault("give mean;\0", 1, 10);
        fault("give mean;\u00e7", 1, 10);
        fault("weigh", 1, 5);
        fault("weigh 3;", 1, 6);
        fault("weigh give 3;", 1, 6);
        fault("weigh skill;", 1, 11);
        fault("weigh skill x;", 1, 12);
        fault("weigh skill 3 4;", 1, 14);
        fault("weigh skill -3;", 1, 12);
        fault("like;", 1, 4);
        fault("like", 1, 4);
        fault("like 3", 1, 6);
        fault("like 3x;", 1, 6);
        fault("like 3.5;", 1, 6);
        fault("like 1/;", 1, 6);
        fault("like 1:;", 1, 6);
        fault("else mean;", 1, 5);
        fault("life ;", 1, 5);
        fault("late;", 1, 4);
        fault("late 3;", 1, 6);
        fault("late 3", 1, 6);
        fault("late 3 afte 4;", 1, 7);
        fault("late 3 afters 4;", 1, 7);
        fault("late 3 like 4;", 1, 7);
        fault("late 3 after;", 1, 12);
        fault("late 3 after x;", 1, 13);
        fault("late 3 after 4", 1, 14);
        fault("late after 4;", 1, 5);
        fault("`ive mean;", 1, 0);
        fault("{", 1, 0);
    }

    private static void numbersNotAsTold() {
        fault("weigh danger 100;", 2, 13);
        fault("like 10000;", 2, 5);
        fault("like 00001;", 2, 5);
        fault("like   99999999999999999999;", 2, 7);
        fault("else 1001;", 2, 5);
        fault("life 101;", 2, 5);
        fault("late 1001 after 0;", 2, 5);
        fault("late 0 after 5001;", 2, 13);
        fault("late 0 after 05000;", 2, 13);
        fault("life 101", 2, 5);
        fault("life 101x", 2, 5);
    }

    private static void toldTwice() {
        fault("give mean;give mean;", 3, 10);
        fault("like 1;like 1;", 3, 7);
        fault("else 1;  else 1;", 3, 9);
        fault("life 1;life 1;", 3, 7);
        fault("late 1 after 1;late 1 after 1;", 3, 15);
        fault("weigh danger 1;weigh danger 1;", 3, 21);
        fault("weigh worth 0;weigh skill 0;weigh worth 0;", 3, 34);
    }

    private static void withoutGive() {
        fault("", 4, 0);
        fault("   ", 4, 3);
        fault("like 3;", 4, 7);
        fault("like 3; ", 4, 8);
    }

    private static void theFirstFaultCounts() {
        fault("like 3;like 99999;", 3, 7);
        fault("give mean;give more;", 3, 10);
        fault("give mean;give", 3, 10);
        fault("weigh skill 1;weigh skill", 3, 20);
        fault("like 99999 5;give mean;give mean;", 2, 5);
        fault("else 2000;gave", 2, 5);
        fault("like 5", 1, 6);
    }

    private static void faultsEmptyTheTape() {
        SalvageCourt x = new SalvageCourt();
        Due.put(x, "give most;");
        Due.due("P15 day -1", x.law(-1), -1);
        Due.due("P15 day 5001", x.law(5001), -1);
        Due.due("P24 the tape is as it was", x.count(7), 10);
        Due.due("P15 fault", x.law(5000), -2 - 21);
        Due.due("P24 empty then", x.count(7), 0);
        Due.due("P24 no law", x.count(5), 0);
        Due.due("P15 told afterwards", Due.tellLaw(x, "give mean;", 5000), 0);
        Due.due("P24 empty again", x.count(7), 0);
        Due.due("P24 a law", x.count(5), 1);
        x.judge(0, 5000);
        Due.due("P15 nothing is left of the faulty one", x.judged(2), 100);
    }

    private static void sixLawsAtMost() {
        SalvageCourt x = new SalvageCourt();
        for (int i = 0; i < 6; i++) {
            Due.due("P15 a fault between", Due.tellLaw(x, "else 7;weigh skill 9;life 9;", 0), -2 - (4 + 4 * 28));
            Due.due("P15 law " + i, Due.tellLaw(x, "give mean;", i), i);
        }
        Due.due("P15 the seventh", Due.tellLaw(x, "give mean;", 0), -1);
        Due.due("P24 the tape is as it was", x.count(7), 10);
        Due.due("P15 a faulty seventh", x.law(9), -1);
        Due.due("P24 laws", x.count(5), 6);
        x.suit(0, 9);
        x.judge(0, 5);
        Due.due("P15 nothing is left of faulty ones", x.judged(2), 100);
    }

    private static void longestText() {
        String text = "give mean;" + " ".repeat(289);
        fine(text + " ");
        fault(text + ";", 1, 299);
        fault(" ".repeat(300), 4, 300);
        fault("give mean" + " ".repeat(291), 1, 300);
    }

    private static void cut(String text, int n, int due) {
        SalvageCourt x = new SalvageCourt();
        Due.put(x, text);
        x.end(n);
        Due.due("P14 '" + text + "' cut to " + n, x.law(0), due);
    }

    private static void bytesBehindTheEndAreGone() {
        cut("give means;", 9, -2 - (1 + 4 * 9));
        cut("give mean;like 3;", 10, 0);
        cut("give mean;;", 10, 0);
        cut("give mean;", 9, -2 - (1 + 4 * 9));
        cut("give mean;life 1000;", 18, -2 - (1 + 4 * 18));
        cut("give mean;life 100;x", 19, 0);
        cut("give mean; ;", 11, 0);
        cut("like 3; ", 7, -2 - (4 + 4 * 7));
        SalvageCourt x = new SalvageCourt();
        Due.tellLaw(x, "give mean;life 7;else 900;", 0);
        Due.due("P15 the next text is read alone", Due.tellLaw(x, "give", 0), -2 - (1 + 4 * 4));
    }

    private static void numbersOfOneToFourDigits() {
        String[] clauses = {"weigh worth ", "like ", "else ", "life ", "late 0 after "};
        for (String clause : clauses) {
            String front = "give mean;" + clause;
            fault(front + ";", 1, front.length());
            for (String digits : new String[] {"7", "07", "007", "0007"}) {
                fine(front + digits + ";");
            }
            fault(front + "00007;", 2, front.length());
            fault(front + "000007;", 2, front.length());
        }
        fault("late after 0;give mean;", 1, 5);
        fine("late 0000 after 0;give mean;");
        fault("late 00000 after 0;give mean;", 2, 5);
    }

    private static void ends(String front, int greatest, String back) {
        fine("give mean;" + front + "0" + back);
        fine("give mean;" + front + greatest + back);
        fault("give mean;" + front + (greatest + 1) + back, 2, 10 + front.length());
        fault("give mean;" + front + "-1" + back, 1, 10 + front.length());
        fault("give mean;" + front + "2147483648" + back, 2, 10 + front.length());
        fault("give mean;" + front + "4294967296" + back, 2, 10 + front.length());
        fault("give mean;" + front + "18446744073709551616" + back, 2, 10 + front.length());
    }

    private static void numbersAtTheirEnds() {
        for (String mark : Model.MARKS) {
            ends("weigh " + mark + " ", 99, ";");
        }
        ends("like ", 9999, ";");
        ends("else ", 1000, ";");
        ends("life ", 100, ";");
        ends("late ", 1000, " after 0;");
        ends("late 0 after ", 5000, ";");
    }

    private static void bytesBesideThoseThatCanBe() {
        fault("give\u001fmean;", 1, 4);
        fault("give!mean;", 1, 4);
        fault("give\u00a0mean;", 1, 4);
        fault("give `;", 1, 5);
        fault("give {;", 1, 5);
        fault("give mean`;", 1, 9);
        fault("give mean{;", 1, 9);
        fault("give mean:", 1, 9);
        fault("give mean<", 1, 9);
        fault("give mean\u00bb", 1, 9);
        fault("like /;", 1, 5);
        fault("like :;", 1, 5);
        fault("like \u00b1;", 1, 5);
        fault("like 1/;", 1, 6);
        fault("like 1\u00b1;", 1, 6);
        fault("give \u00edean;", 1, 5);
    }

    /** Of all bytes only a blank and the first letters of clauses can stand first. */
    private static void firstBytes() {
        for (int sign = 0; sign < 256; sign++) {
            String text = (char) sign + "ive mean;";
            if (sign == 'g') {
                fine(text);
            } else {
                fault(text, 1, sign == ' ' ? 1 : 0);
            }
        }
    }

    private static void faultsAtTheirLastPlaces() {
        String give = "give mean;";
        fault(give + " ".repeat(289) + "g", 1, 299);
        fault(give + " ".repeat(286) + "like", 1, 300);
        fault(give + " ".repeat(282) + "like" + "0000", 1, 300);
        fault(give + " ".repeat(281) + "like" + "10000", 2, 295);
        fault(give + " ".repeat(286) + "give", 3, 296);
        fault("weigh skill 1;" + give + "weigh" + " ".repeat(266) + "skill", 3, 295);
        fault("like 1;" + " ".repeat(293), 4, 300);
        fault(" ".repeat(290) + "like 1000;", 4, 300);
        fault("like1;", 4, 6);
        fault("like99999;", 2, 4);
    }

    private static void longestTextOfClauses() {
        String text = " weigh danger 99 ; weigh skill 98 ; weigh labour 97 ; weigh weather 96 ; weigh worth 95 ; "
                + "like 9999 ; give greatest ; else 1000 ; life 100 ; late 1000 after 5000 ;";
        fine(text + " ".repeat(300 - text.length()));
        fine(" ".repeat(300 - text.length()) + text);
    }

    private static void whatIsNotTold() {
        String faulty = "weigh danger 99;weigh skill 99;weigh labour 99;weigh weather 99;weigh worth 99;"
                + "like 9999;else 7;life 100;late 1000 after 0;";
        for (String before : new String[] {"", faulty, faulty + "give least", faulty + "give mean;like"}) {
            SalvageCourt x = new SalvageCourt();
            Due.due("P15 a fault", Due.tellLaw(x, before, 0) < -1, true);
            giveAlone(x);
            SalvageCourt y = new SalvageCourt();
            Due.due("P15 a fault", Due.tellLaw(y, before, 0) < -1, true);
            Due.tellLaw(y, "give greatest;weigh worth 1;", 0);
            y.earlier(1, 3, 0);
            y.judge(0, 0);
            Due.due("P15 like 0", y.judged(1), 0);
        }
    }

    /** A law that tells nothing but what it gives, judged with all that other clauses could touch. */
    private static void giveAlone(SalvageCourt x) {
        Due.tellLaw(x, "give greatest;", 0);
        x.says(0, 0, 1, 1, 1);
        x.value(0, 10000, 0, 0);
        x.sheet(1, 1, 0, 0, 0);
        x.ship(1, 0, 1, 5000, 0, 0);
        x.suit(99999, 99);
        x.judge(0, 0);
        Due.due("P15 else 100, life 0", x.judged(2), 100);
        Due.due("P15 late 0 after 0, back", x.judged(5), 0);
        Due.due("P15 late 0 after 0, coins", x.share(0, 2), 1000);
        x.earlier(0, 3, 0);
        x.earlier(0, 4, 0);
        x.judge(0, 0);
        Due.due("P15 each mark 0", x.judged(1), 2);
        Due.due("P15 life 0, and greatest", x.judged(2), 4);
    }

    private static void aFaultyLawIsNone() {
        SalvageCourt x = new SalvageCourt();
        Due.due("P15 faulty behind its give", Due.tellLaw(x, "give mean;like", 0), -2 - (1 + 4 * 14));
        Due.due("P18 no law", x.judge(5000, 5000), 1);
        Due.due("P24 no law", x.count(5), 0);
        Due.due("P24 an empty tape", x.count(7), 0);
        Due.due("P15 nothing is left on it", x.law(0), -2 - 4);
        Due.tellLaw(x, "give mean;else 5;", 10);
        Due.tellLaw(x, "give mean;else 6;life 1000;", 20);
        x.judge(0, 20);
        Due.due("P19 the law told before", x.judged(2), 5);
    }
}
