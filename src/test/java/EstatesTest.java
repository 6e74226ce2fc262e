/** Terms 5 and 6 and promises 33 to 36, sentence by sentence: estates, what is found, books, the purse. */
public final class EstatesTest {
    private static final Check check = new Check();
    private static final int LOW = Check.LOW;
    private static final int HIGH = Check.HIGH;

    public static void main(String[] args) {
        surrender();
        surrenderRefused();
        surrenderAgain();
        keep();
        rankByRank();
        enoughForTheRank();
        pennies();
        pennyByPenny();
        greatNumbers();
        lacks();
        moreThanAllDue();
        found();
        foundRefused();
        foundIsItsOwn();
        foundByRank();
        foundPennies();
        foundByPresentCreditors();
        opens();
        book();
        bookRefused();
        concealed();
        freed();
        freedPays();
        freedOneAfterTheOther();
        freedMost();
        freedFirstEight();
        freeRefused();
        freeDoesNothing();
        check.finish();
    }

    private static void surrender() {
        check.says("Promise 33", "SURRENDERED: how many COINS were PARTED.");
        DebtorsHouse x = Check.persons(160, 0, 0, 0);
        x.debt(0, 1, 100, 2, 0, 0);
        x.debt(0, 2, 100, 1, 0, 0);
        x.debt(0, 3, 50, 1, 0, 0);
        x.debt(0, 1, 10, 3, 0, 0);
        x.debt(1, 0, 10, 0, 0, 0);
        x.hold(2, 0);
        x.day();
        check.due("parted", x.surrender(0), 160);
        check.due("coins of 0", x.tell(0, 0), 0);
        check.due("coins of 1", x.tell(1, 0), 10);
        check.due("coins of 2", x.tell(2, 0), 100);
        check.due("coins of 3", x.tell(3, 0), 50);
        check.due("its own claims stay", x.about(4, 7), 0);
        check.due("nothing is due of it", x.tell(0, 11), 0);
        check.due("it surrendered", x.tell(0, 13), 1);
        check.due("nobody else did", x.tell(1, 13) + x.tell(2, 13) + x.tell(3, 13), 0);
        check.due("ended", x.about(3, 14), 1);
        check.due("detained no more", x.tell(0, 10), 0);
        check.due("held on", x.tell(0, 2), 1);
        DebtorsHouse y = Check.persons(0, 0);
        y.debt(0, 1, 7, 0, 0, 0);
        check.due("nothing to part", y.surrender(0), 0);
        check.due("surrendered all the same", y.tell(0, 13), 1);
        check.due("all lacks", y.about(0, 13), 7);
        check.due("released", y.about(0, 7), 3);
        DebtorsHouse z = Check.persons(30, 0);
        Check.act(z, "entry:5;", 0);
        z.debt(0, 1, 40, 0, 0, 0);
        z.hold(1, 0);
        check.due("fees are no debt", z.surrender(0), 30);
        check.due("it owes them on", z.tell(0, 5), 5);
        check.due("and can't leave", z.leave(0), false);
    }

    private static void surrenderRefused() {
        check.says("Promise 33", "NONE: there is none such, or it has no LIVE DEBTS.");
        DebtorsHouse x = Check.persons(50, 0);
        check.due("no debts", x.surrender(0), -1);
        for (int nobody : new int[] {-1, 2, 12, LOW, HIGH}) {
            check.due("surrender(" + nobody + ")", x.surrender(nobody), -1);
        }
        x.debt(0, 1, 20, 0, 0, 0);
        check.due("the creditor has none", x.surrender(1), -1);
        x.pay(0, 20);
        check.due("none that is live", x.surrender(0), -1);
        check.due("it has not surrendered", x.tell(0, 13), 0);
        check.due("coins as they were", x.tell(0, 0), 30);
        x.debt(0, 1, 50, 0, 0, 0);
        check.due("now it has", x.surrender(0), 30);
        check.due("none that is live any more", x.surrender(0), -1);
        check.due("the lack as it was", x.about(1, 13), 20);
    }

    private static void surrenderAgain() {
        check.says("Promise 33", "SURRENDERED: how many COINS were PARTED.");
        DebtorsHouse x = Check.persons(10, 0);
        x.debt(0, 1, 15, 0, 0, 0);
        check.due("once", x.surrender(0), 10);
        x.day();
        x.person(40, 0);
        x.debt(2, 0, 6, 0, 0, 0);
        x.pay(1, 6);
        x.debt(0, 1, 9, 0, 0, 0);
        check.due("twice, with a new debt", x.surrender(0), 6);
        check.due("the lack of the first stays", x.about(0, 13), 5);
        check.due("the lack of the second", x.about(2, 13), 3);
        check.due("the first ended then", x.about(0, 14), 0);
        check.due("both are parted among", x.found(0, 4), 4);
        check.due("3 of 5 by rests", x.about(0, 13) * 10 + x.about(2, 13), 22);
    }

    private static void keep() {
        check.says("Term 5", "SURRENDERED: a debtor with LIVE DEBTS keeps its COINS * keep / 100, cut;");
        int[][] rows = {{99, 10, 9}, {100, 10, 10}, {109, 10, 10}, {110, 10, 11}, {199, 33, 65}, {99, 0, 0}, {99, 1, 0},
            {100, 1, 1}, {99, 99, 98}, {99, 100, 99}, {0, 50, 0}, {1, 99, 0}};
        for (int[] row : rows) {
            DebtorsHouse x = Check.persons(row[0], 0);
            Check.act(x, "keep:" + row[1] + ";", 0);
            x.debt(0, 1, 1000, 0, 0, 0);
            check.due("of " + row[0] + " with keep " + row[1], x.surrender(0), row[0] - row[2]);
            check.due("kept of " + row[0], x.tell(0, 0), row[2]);
            check.due("lack by " + row[0], x.about(0, 13), 1000 - row[0] + row[2]);
        }
        DebtorsHouse x = Check.persons(1000000, 0);
        for (int i = 0; i < 29; i++) {
            x.found(0, 1000000);
        }
        Check.act(x, "keep:99;", 0);
        x.debt(0, 1, 100000, 0, 0, 0);
        for (int i = 0; i < 30; i++) {
            x.costs(0, 10000);
        }
        check.due("30000000 * 99 / 100 is kept", x.surrender(0), 300000);
        check.due("that and nothing else", x.tell(0, 0), 29700000);
    }

    private static void rankByRank() {
        check.says("Term 5", "the others are PARTED among its LIVE DEBTS, RANK by RANK, 0 first:");
        int[][] rows = {{0, 0, 0, 0, 0}, {5, 5, 0, 0, 0}, {30, 30, 0, 0, 0}, {31, 30, 1, 0, 0}, {59, 30, 29, 0, 0},
            {60, 30, 30, 0, 0}, {61, 30, 30, 1, 0}, {90, 30, 30, 30, 0}, {100, 30, 30, 30, 10}, {119, 30, 30, 30, 29},
            {120, 30, 30, 30, 30}};
        for (int[] row : rows) {
            DebtorsHouse x = Check.persons(row[0], 0);
            for (int rank = 3; rank >= 0; rank--) {
                x.debt(0, 1, 30, rank, 0, 0);
            }
            check.due("parted of " + row[0], x.surrender(0), row[0]);
            for (int rank = 0; rank <= 3; rank++) {
                check.due("of " + row[0] + " lack in rank " + rank, x.about(3 - rank, 13), 30 - row[1 + rank]);
                check.due("of " + row[0] + " state in rank " + rank, x.about(3 - rank, 7), row[1 + rank] == 30 ? 1 : 3);
            }
        }
    }

    private static void enoughForTheRank() {
        check.says("Term 5", "all that is DUE if there is enough for the RANK; else of each DUE * left / all DUE of the RANK, cut,");
        DebtorsHouse x = Check.persons(50, 0, 0, 0);
        x.debt(0, 1, 10, 1, 0, 0);
        x.debt(0, 2, 15, 1, 0, 0);
        x.debt(0, 3, 20, 1, 0, 0);
        x.costs(2, 5);
        x.image(0);
        check.due("just enough", x.surrender(0), 50);
        check.due("no lack", x.about(0, 13) + x.about(1, 13) + x.about(2, 13), 0);
        check.due("all are paid", x.about(0, 7) + x.about(1, 7) + x.about(2, 7), 3);
        x.again(0);
        x.pay(0, 1);
        x.costs(0, 2);
        check.due("one of 50 too few", x.surrender(0), 49);
        // 11 * 49 / 51 = 10 28/51, 15 * 49 / 51 = 14 21/51, 25 * 49 / 51 = 24 1/51
        check.due("lacks 0, 1, 1", x.about(0, 13) * 100 + x.about(1, 13) * 10 + x.about(2, 13), 11);
        DebtorsHouse y = Check.persons(3, 0, 0, 0);
        y.debt(0, 1, 1800, 0, 200, 0);
        y.debt(0, 2, 2, 0, 0, 0);
        Check.days(y, 2);
        y.debt(0, 3, 1, 3, 0, 0);
        y.surrender(0);
        check.due("1802 * 3 / 1804, with interest", y.tell(1, 0), 3);
        check.due("2 * 3 / 1804", y.tell(2, 0), 0);
        check.due("nothing is left for rank 3", y.about(2, 13), 1);
    }

    private static void pennies() {
        check.says("Term 5", "and what is left over penny by penny to the greatest rests of that (of several the least DEBT).");
        DebtorsHouse x = Check.persons(10, 0, 0, 0);
        x.debt(0, 1, 3, 0, 0, 0);
        x.debt(0, 2, 5, 0, 0, 0);
        x.debt(0, 3, 5, 0, 0, 0);
        // 30/13, 50/13, 50/13: 2 + 3 + 3, rests 4, 11, 11
        check.due("parted to the penny", x.surrender(0), 10);
        check.due("the small rest", x.tell(1, 0), 2);
        check.due("a penny more", x.tell(2, 0), 4);
        check.due("a penny more, too", x.tell(3, 0), 4);
        DebtorsHouse y = Check.persons(10, 0, 0, 0);
        y.debt(0, 1, 7, 0, 0, 0);
        y.debt(0, 2, 7, 0, 0, 0);
        y.debt(0, 3, 7, 0, 0, 0);
        y.surrender(0);
        check.due("of several the least debt", y.tell(1, 0), 4);
        check.due("not the second", y.tell(2, 0), 3);
        check.due("not the third", y.tell(3, 0), 3);
        DebtorsHouse z = Check.persons(7, 0, 0, 0);
        z.debt(0, 1, 2, 0, 0, 0);
        z.debt(0, 2, 9, 0, 0, 0);
        z.debt(0, 3, 4, 0, 0, 0);
        // 14/15, 63/15, 28/15: 0 + 4 + 1, rests 14, 3, 13
        z.surrender(0);
        check.due("the greatest rest is that of the least due", z.tell(1, 0), 1);
        check.due("the least rest is that of the most", z.tell(2, 0), 4);
        check.due("the second penny", z.tell(3, 0), 2);
    }

    private static void pennyByPenny() {
        check.says("Term 5", "and what is left over penny by penny to the greatest rests of that (of several the least DEBT).");
        for (int coins : new int[] {0, 1, 39, 40, 41, 79, 80}) {
            DebtorsHouse x = Check.persons(coins, 0);
            for (int d = 0; d < 40; d++) {
                x.debt(0, 1, 2, 0, 0, 0);
            }
            x.surrender(0);
            for (int d = 0; d < 40; d++) {
                int share = Math.min(2, coins / 40 + (d < coins % 40 ? 1 : 0));
                check.due(coins + " among 40: lack of " + d, x.about(d, 13), 2 - share);
            }
            check.due(coins + " among 40", x.tell(1, 0), coins);
        }
        DebtorsHouse y = Check.persons(5, 0);
        y.debt(0, 1, 4, 1, 0, 0);
        y.debt(0, 1, 3, 0, 0, 0);
        y.debt(0, 1, 4, 1, 0, 0);
        y.surrender(0);
        check.due("of rank 1 each one, of rank 0 all", y.about(0, 13) * 100 + y.about(1, 13) * 10 + y.about(2, 13), 303);
    }

    private static void greatNumbers() {
        check.says("Term 5", "all that is DUE if there is enough for the RANK; else of each DUE * left / all DUE of the RANK, cut,");
        DebtorsHouse x = Check.persons(250000, 0, 0, 0);
        x.debt(0, 1, 100000, 0, 0, 0);
        x.debt(0, 2, 100000, 0, 0, 0);
        x.debt(0, 3, 99999, 0, 0, 0);
        check.due("all of 250000", x.surrender(0), 250000);
        // 100000 * 250000 / 299999 = 83333 183333/299999 twice, 99999 * 250000 / 299999 = 83332 233332/299999
        check.due("the first has a penny", x.tell(1, 0), 83334);
        check.due("the second has none", x.tell(2, 0), 83333);
        check.due("the third has the greatest rest", x.tell(3, 0), 83333);
        DebtorsHouse y = Check.persons(1000000, 0);
        for (int d = 0; d < 40; d++) {
            y.debt(0, 1, 100000, 3, 0, 0);
        }
        check.due("a million among four", y.surrender(0), 1000000);
        check.due("25000 of each", y.about(39, 13), 75000);
        check.due("and of all", y.tell(1, 0), 1000000);
    }

    private static void lacks() {
        check.says("Term 5", "What is not paid of a DEBT is its LACK; it is released.");
        DebtorsHouse x = Check.persons(35, 0);
        x.debt(0, 1, 30, 0, 0, 0);
        x.debt(0, 1, 30, 1, 0, 0);
        x.debt(0, 1, 30, 2, 0, 0);
        Check.days(x, 3);
        x.surrender(0);
        check.due("a lack of some", x.about(1, 13), 25);
        check.due("released", x.about(1, 7), 3);
        check.due("a lack of all", x.about(2, 13), 30);
        check.due("released, too", x.about(2, 7), 3);
        check.due("no lack", x.about(0, 13), 0);
        check.due("ended", x.about(0, 14) + x.about(1, 14) + x.about(2, 14), 9);
        check.due("none is live", x.count(2), 0);
        check.due("nothing is due", x.count(10), 0);
        check.says("Term 1", "a DEBT of which nothing is DUE then is paid.");
        check.due("without a lack it is paid", x.about(0, 7), 1);
    }

    private static void moreThanAllDue() {
        check.says("Term 5", "What more COINS than all DUE there are it keeps.");
        DebtorsHouse x = Check.persons(100, 0);
        x.debt(0, 1, 30, 0, 0, 0);
        x.debt(0, 1, 20, 3, 0, 0);
        x.costs(0, 4);
        check.due("all that is due", x.surrender(0), 54);
        check.due("what it keeps", x.tell(0, 0), 46);
        check.due("both are paid", x.about(0, 7) + x.about(1, 7), 2);
        DebtorsHouse y = Check.persons(100, 0);
        Check.act(y, "keep:40;", 0);
        y.debt(0, 1, 59, 0, 0, 0);
        check.due("59 of 60", y.surrender(0), 59);
        check.due("it keeps 41", y.tell(0, 0), 41);
    }

    private static void found() {
        check.says("Promise 34", "FOUND COINS, 1 .. 1000000: how many of them were PARTED.");
        check.says("Term 5", "FOUND COINS are the PERSON's; but if it once SURRENDERED, has LACKS, and opens tells other than 0, "
            + "they are PARTED among these alike (LACKS by RANK); what is over is its own.");
        DebtorsHouse x = Check.persons(10, 0, 0);
        x.debt(0, 1, 100, 0, 0, 0);
        x.debt(0, 2, 40, 1, 0, 0);
        check.due("it has not surrendered", x.found(0, 1), 0);
        check.due("they are its own", x.tell(0, 0), 11);
        x.surrender(0);
        check.due("1 coin", x.found(0, 1), 1);
        check.due("by rank", x.found(0, 89), 89);
        check.due("to the first", x.tell(1, 0), 100);
        check.due("and the second", x.tell(2, 0), 1);
        check.due("no lack any more", x.about(0, 13), 0);
        check.due("released it stays", x.about(0, 7), 3);
        check.due("ended it has on that day", x.about(0, 14), 0);
        check.due("a lack", x.about(1, 13), 39);
        check.due("none its own", x.tell(0, 0), 0);
        check.due("one fewer than the lack", x.found(0, 38), 38);
        check.due("a lack of one", x.about(1, 13), 1);
        check.due("1000000", x.found(0, 1000000), 1);
        check.due("what is over is its own", x.tell(0, 0), 999999);
        check.due("it has no lacks", x.found(0, 5), 0);
        check.due("its own then", x.tell(0, 0), 1000004);
        check.due("the creditors", x.tell(1, 0) + x.tell(2, 0), 140);
    }

    private static void foundRefused() {
        check.says("Promise 34", "NONE: there is none such, or others.");
        DebtorsHouse x = Check.persons(10, 0);
        x.debt(0, 1, 100, 0, 0, 0);
        x.surrender(0);
        for (int coins : new int[] {0, -1, 1000001, LOW, HIGH}) {
            check.due("found(0, " + coins + ")", x.found(0, coins), -1);
        }
        for (int nobody : new int[] {-1, 2, 12, LOW, HIGH}) {
            check.due("found(" + nobody + ", 1)", x.found(nobody, 1), -1);
        }
        check.due("the lack as it was", x.about(0, 13), 90);
        check.due("coins as they were", x.count(9), 10);
    }

    private static void foundIsItsOwn() {
        check.says("Term 5", "FOUND COINS are the PERSON's; but if it once SURRENDERED, has LACKS, and opens tells other than 0, "
            + "they are PARTED among these alike (LACKS by RANK); what is over is its own.");
        DebtorsHouse x = Check.persons(100, 0, 0);
        x.debt(0, 1, 50, 0, 0, 0);
        check.due("with live debts alone", x.found(0, 5), 0);
        check.due("the debt is as it was", x.about(0, 11), 50);
        x.surrender(0);
        check.due("surrendered without lacks", x.found(0, 7), 0);
        check.due("its own", x.tell(0, 0), 62);
        x.debt(0, 1, 500, 0, 0, 0);
        check.due("surrendered without lacks, with live debts", x.found(0, 1), 0);
        x.surrender(0);
        check.due("of its creditor, who lacks", x.found(1, 7), 0);
        check.due("coins of the creditor", x.tell(1, 0), 50 + 63 + 7);
        x.debt(2, 0, 9, 0, 0, 0);
        x.surrender(2);
        check.due("of another who surrendered", x.found(2, 3), 3);
        check.due("to its own creditor alone", x.tell(0, 0), 3);
        check.due("the lack of the first is as it was", x.about(1, 13), 437);
        check.due("the lack of the other", x.about(2, 13), 6);
    }

    private static void foundByRank() {
        check.says("Term 5", "FOUND COINS are the PERSON's; but if it once SURRENDERED, has LACKS, and opens tells other than 0, "
            + "they are PARTED among these alike (LACKS by RANK); what is over is its own.");
        int[][] rows = {{1, 1, 0, 0, 0}, {29, 29, 0, 0, 0}, {30, 30, 0, 0, 0}, {45, 30, 15, 0, 0}, {60, 30, 30, 0, 0},
            {89, 30, 30, 29, 0}, {91, 30, 30, 30, 1}, {119, 30, 30, 30, 29}, {120, 30, 30, 30, 30}, {121, 30, 30, 30, 30}};
        for (int[] row : rows) {
            DebtorsHouse x = Check.persons(0, 0);
            for (int rank = 3; rank >= 0; rank--) {
                x.debt(0, 1, 30, rank, 0, 0);
            }
            x.surrender(0);
            check.due("found " + row[0], x.found(0, row[0]), Math.min(120, row[0]));
            for (int rank = 0; rank <= 3; rank++) {
                check.due("found " + row[0] + ": lack in rank " + rank, x.about(3 - rank, 13), 30 - row[1 + rank]);
                check.due("found " + row[0] + ": state in rank " + rank, x.about(3 - rank, 7), 3);
            }
            check.due("found " + row[0] + ": its own", x.tell(0, 0), Math.max(0, row[0] - 120));
        }
    }

    private static void foundPennies() {
        check.says("Term 5", "FOUND COINS are the PERSON's; but if it once SURRENDERED, has LACKS, and opens tells other than 0, "
            + "they are PARTED among these alike (LACKS by RANK); what is over is its own.");
        DebtorsHouse x = Check.persons(0, 0, 0, 0);
        x.debt(0, 1, 3, 0, 0, 0);
        x.debt(0, 2, 5, 0, 0, 0);
        x.debt(0, 3, 5, 0, 0, 0);
        x.surrender(0);
        check.due("alike", x.found(0, 10), 10);
        check.due("the small rest", x.tell(1, 0), 2);
        check.due("a penny more", x.tell(2, 0), 4);
        check.due("two pennies among three", x.found(0, 2), 2);
        check.due("to the least debts", x.about(0, 13) * 100 + x.about(1, 13) * 10 + x.about(2, 13), 1);
        x.debt(0, 1, 50, 0, 0, 0);
        check.due("new debts are not lacks", x.found(0, 3), 1);
        check.due("due is as it was", x.about(3, 11), 50);
        DebtorsHouse y = Check.persons(0, 0, 0);
        for (int d = 0; d < 39; d++) {
            y.debt(0, 1, 100000, 0, 0, 0);
        }
        y.debt(0, 2, 99999, 0, 0, 0);
        y.surrender(0);
        check.due("a million among 3999999", y.found(0, 1000000), 1000000);
        // 25000 25000/3999999 each, and 24999 3025000/3999999
        check.due("each of the first", y.about(0, 13) + y.about(38, 13), 150000);
        check.due("the last has the penny", y.tell(2, 0), 25000);
    }

    private static void foundByPresentCreditors() {
        check.says("Term 5", "FOUND COINS are the PERSON's; but if it once SURRENDERED, has LACKS, and opens tells other than 0, "
            + "they are PARTED among these alike (LACKS by RANK); what is over is its own.");
        DebtorsHouse x = Check.persons(0, 0, 20);
        x.debt(0, 1, 30, 0, 0, 0);
        x.buy(0, 2, 20);
        x.surrender(0);
        check.due("parted", x.found(0, 12), 12);
        check.due("to who bought it", x.tell(2, 0), 12);
        check.due("nothing to who sold it", x.tell(1, 0), 20);
    }

    private static void opens() {
        check.says("Term 5", "FOUND COINS are the PERSON's; but if it once SURRENDERED, has LACKS, and opens tells other than 0, "
            + "they are PARTED among these alike (LACKS by RANK); what is over is its own.");
        DebtorsHouse x = Check.persons(10, 0);
        Check.act(x, "keep:10;opens if sum=0:7;opens:no;", 0);
        x.debt(0, 1, 100, 0, 0, 0);
        x.surrender(0);
        check.due("opens", x.found(0, 5), 5);
        x.debt(0, 1, 1, 0, 0, 0);
        check.due("does not open", x.found(0, 5), 0);
        check.due("its own", x.tell(0, 0), 6);
        check.due("the lack stays", x.about(0, 13), 86);
        x.pay(1, 1);
        check.due("opens again", x.found(0, 100), 86);
        check.due("what is over", x.tell(0, 0), 19);
        DebtorsHouse y = Check.persons(0, 0);
        y.debt(0, 1, 100, 0, 0, 0);
        y.surrender(0);
        Check.act(y, "opens:no;", 1);
        check.due("without an act it opens", y.found(0, 1), 1);
        y.day();
        check.due("by the act of now", y.found(0, 1), 0);
    }

    private static void book() {
        check.says("Promise 35", "A row comes to a BOOK: CONCEALED then.");
        check.says("Term 5", "A BOOK of a PERSON: rows, at most 60 in all, of what came in (above 0) and went out (below 0), "
            + "-100000 .. 100000, from 0 COINS on.");
        DebtorsHouse x = Check.persons(0, 0);
        check.due("100000 came in", x.book(0, 100000), 0);
        check.due("100000 went out", x.book(0, -100000), 0);
        check.due("1 went out", x.book(0, -1), 1);
        check.due("1 came in", x.book(0, 1), 1);
        check.due("of another: 100000 went out", x.book(1, -100000), 100000);
        check.due("no coins are moved by books", x.count(9), 0);
        check.due("rows", x.count(11), 5);
        for (int i = 6; i <= 60; i++) {
            check.due("row " + i, x.book(i % 2, -100000), (i % 2 == 0 ? (i - 4) / 2 : (i - 3) / 2) * 100000);
        }
        check.due("60 rows", x.count(11), 60);
        check.due("a 61st", x.book(0, 1), -1);
        check.due("60 rows, still", x.count(11), 60);
    }

    private static void bookRefused() {
        check.says("Promise 35", "NONE: there is none such, there are 60 in all, or another number (0, too).");
        DebtorsHouse x = Check.persons(0, 0);
        for (int coins : new int[] {0, 100001, -100001, LOW, HIGH}) {
            check.due("book(0, " + coins + ")", x.book(0, coins), -1);
        }
        for (int nobody : new int[] {-1, 2, 12, LOW, HIGH}) {
            check.due("book(" + nobody + ", 5)", x.book(nobody, 5), -1);
        }
        check.due("no row came", x.count(11), 0);
        for (int i = 0; i < 60; i++) {
            x.book(1, -1);
        }
        check.due("60 in all", x.book(1, -1), -1);
        check.due("60 in all, of any", x.book(0, -1), -1);
        check.due("concealed as it was", x.tell(1, 14), 60);
        check.due("nothing of the other", x.tell(0, 14), 0);
    }

    private static void concealed() {
        check.says("Term 5", "CONCEALED is proved as far as its sum is ever below 0: the most below.");
        DebtorsHouse x = Check.persons(500, 0);
        int[][] rows = {{50, 0}, {-50, 0}, {-1, 1}, {1, 1}, {-80, 80}, {100, 80}, {-99, 80}, {-1, 80}, {-1, 81}, {-100000, 100081},
            {100000, 100081}, {100000, 100081}};
        for (int[] row : rows) {
            check.due("book(0, " + row[0] + ")", x.book(0, row[0]), row[1]);
            check.due("tell(0, 14)", x.tell(0, 14), row[1]);
        }
        check.due("of another: from 0 on", x.book(1, -7), 7);
        check.due("as it was", x.tell(0, 14), 100081);
    }

    private static void freed() {
        check.says("Promise 36", "FREED by a purse, 0 .. 1000000, what 0: how many, 1: the set (bits by PERSONS), "
            + "2: how much of the purse.");
        DebtorsHouse x = Check.persons(10, 20, 0, 0);
        for (int what = 0; what <= 2; what++) {
            check.due("nobody is held: " + what, x.free(1000000, what), 0);
        }
        Check.act(x, "entry:7;", 0);
        x.debt(0, 3, 30, 0, 0, 0);
        x.debt(1, 3, 23, 0, 0, 0);
        x.debt(2, 3, 90, 0, 0, 0);
        for (int what = 0; what <= 2; what++) {
            check.due("nobody is held yet: " + what, x.free(1000000, what), 0);
        }
        x.hold(3, 0);
        x.hold(3, 1);
        x.hold(3, 2);
        int[][] rows = {{0, 0, 0, 0}, {9, 0, 0, 0}, {10, 1, 2, 10}, {11, 1, 2, 10}, {26, 1, 2, 10}, {27, 1, 2, 10},
            {36, 1, 2, 10}, {37, 2, 3, 37}, {133, 2, 3, 37}, {134, 3, 7, 134}, {1000000, 3, 7, 134}};
        for (int[] row : rows) {
            for (int what = 0; what <= 2; what++) {
                check.due("free(" + row[0] + ", " + what + ")", x.free(row[0], what), row[1 + what]);
            }
        }
        for (int what = 2; what >= 0; what--) {
            check.due("free(0, " + what + "), behind a great one", x.free(0, what), 0);
        }
    }

    private static void freedPays() {
        check.says("Term 6", "who is FREED pays all that is DUE of its LIVE DEBTS and its FEES, from its own COINS and, "
            + "as far as these lack, from the purse;");
        DebtorsHouse x = Check.persons(30, 0);
        Check.act(x, "entry:3;daily:2;walk:yes;", 0);
        x.debt(0, 1, 1800, 0, 200, 0);
        x.debt(0, 1, 5, 0, 0, 0);
        x.costs(1, 4);
        x.hold(1, 0);
        x.day();
        // 1801 + 9 + 5 - 30
        check.due("due with interest and costs, and fees, less its coins", x.free(1785, 2), 1785);
        check.due("one too few", x.free(1784, 0), 0);
        x.walk(0, true);
        check.due("out it is held, too", x.free(1785, 0), 1);
        x.pay(1, 9);
        check.due("as much less as it has paid", x.free(10000, 2), 1785);
        x.found(0, 1784);
        check.due("from its own, but for 1", x.free(1, 2), 1);
        check.due("not by an empty purse", x.free(0, 0), 0);
        x.found(0, 1);
        check.due("from its own", x.free(0, 0), 1);
        check.due("nothing of the purse", x.free(1000000, 2), 0);
        check.due("who", x.free(0, 1), 1);
        DebtorsHouse y = Check.persons(0, 9);
        y.debt(0, 1, 5, 0, 0, 0);
        y.hold(1, 0);
        y.least(1, 0, 0);
        y.compose(0, 0);
        check.due("one who owes nothing", y.free(0, 0), 1);
        check.due("and needs nothing", y.free(0, 2), 0);
    }

    private static void freedOneAfterTheOther() {
        check.says("Term 6", "FREED by a purse of c coins: HELD ones (at most the first 8), one after the other:");
        check.says("Term 6", "its creditors have the COINS then (and may need less of the purse).");
        DebtorsHouse x = Check.persons(0, 0, 0, 0);
        x.debt(0, 1, 50, 0, 0, 0);
        x.debt(1, 2, 40, 0, 0, 0);
        x.debt(2, 3, 60, 0, 0, 0);
        x.hold(1, 0);
        x.hold(2, 1);
        x.hold(3, 2);
        check.due("the first pays for the second", x.free(50, 0), 2);
        check.due("these", x.free(50, 1), 3);
        check.due("purse for these", x.free(50, 2), 50);
        check.due("and 20 for the third", x.free(70, 0), 3);
        check.due("in all", x.free(100, 2), 70);
        check.due("not for less", x.free(69, 0), 2);
        check.due("the cheapest one alone", x.free(49, 2), 40);
        x.debt(2, 0, 45, 0, 0, 0);
        // 2 owes 105: the second, third, first one need 40 + 65 + 5; the third, first, second 105 + 5 + 0
        check.due("a ring, begun where it is least", x.free(1000, 2), 110);
        check.due("not for a penny less", x.free(109, 0), 2);
        DebtorsHouse y = Check.persons(0, 60, 0);
        y.debt(0, 1, 50, 0, 0, 0);
        y.debt(1, 2, 120, 0, 0, 0);
        y.hold(1, 0);
        y.hold(2, 1);
        check.due("50 for the first, 10 for the second", y.free(1000, 2), 60);
        check.due("one too few for both", y.free(59, 1), 1);
        y.debt(0, 1, 20, 0, 0, 0);
        check.due("two debts of the first to the second", y.free(1000, 2), 70);
        check.due("10 more than it needs are not in the purse", y.free(69, 0), 1);
        check.due("the second alone for 60", y.free(69, 1), 2);
    }

    private static void freedMost() {
        check.says("Term 6", "MOST: as many as can be; with the least of the purse; "
            + "of several that set whose bits, as a number, are least.");
        DebtorsHouse x = Check.persons(0, 0, 0, 0);
        x.debt(0, 3, 50, 0, 0, 0);
        x.debt(1, 3, 40, 0, 0, 0);
        x.debt(2, 3, 40, 0, 0, 0);
        x.hold(3, 0);
        x.hold(3, 1);
        x.hold(3, 2);
        check.due("least of the purse", x.free(60, 2), 40);
        check.due("then the least set", x.free(60, 1), 2);
        check.due("none for 39", x.free(39, 0), 0);
        check.due("one for 40", x.free(40, 0), 1);
        check.due("one for 79", x.free(79, 0), 1);
        check.due("two for 80", x.free(80, 0), 2);
        check.due("the two for least", x.free(90, 1), 6);
        check.due("which are 80", x.free(90, 2), 80);
        check.due("three for 130", x.free(130, 1), 7);
        DebtorsHouse y = Check.persons(0, 0, 0, 0);
        y.debt(0, 3, 30, 0, 0, 0);
        y.debt(1, 3, 20, 0, 0, 0);
        y.debt(2, 3, 30, 0, 0, 0);
        y.hold(3, 0);
        y.hold(3, 1);
        y.hold(3, 2);
        check.due("3 and 6 are as dear, 3 is less", y.free(50, 1), 3);
        check.due("many go before cheap ones", y.free(50, 0), 2);
    }

    private static void freedFirstEight() {
        check.says("Term 6", "FREED by a purse of c coins: HELD ones (at most the first 8), one after the other:");
        DebtorsHouse x = Check.persons(0, 0, 0, 0, 0, 0, 0, 0, 0, 0, 0, 0);
        for (int i = 1; i <= 8; i++) {
            x.debt(i, 11, 10, 0, 0, 0);
            x.hold(11, i);
        }
        check.due("eight", x.free(1000000, 0), 8);
        for (int i = 9; i <= 10; i++) {
            x.debt(i, 11, 1, 0, 0, 0);
            x.hold(11, i);
        }
        check.due("the first eight", x.free(1000000, 0), 8);
        check.due("bits by persons", x.free(1000000, 1), 0x1fe);
        check.due("their purse", x.free(1000000, 2), 80);
        check.due("not the others", x.free(5, 0), 0);
        x.tire(11, 1);
        x.leave(1);
        check.due("the ninth is the eighth then", x.free(5, 1), 1 << 9);
        check.due("eight of them", x.free(1000, 1), 0x3fc);
        check.due("for 71", x.free(1000, 2), 71);
        DebtorsHouse y = Check.persons(0, 0, 0, 0, 0, 0, 0, 0, 0, 0, 0, 0);
        for (int i = 0; i < 8; i++) {
            y.debt(i, (i + 1) % 8, 10, 0, 0, 0);
            y.hold((i + 1) % 8, i);
        }
        y.debt(8, 9, 1, 0, 0, 0);
        y.hold(9, 8);
        y.debt(9, 0, 10, 0, 0, 0);
        check.due("eight in a ring for 10", y.free(10, 0), 8);
        check.due("and no less", y.free(9, 0), 0);
        y.debt(7, 6, 5, 0, 0, 0);
        check.due("the last owes 5 more to the one ahead", y.free(1000, 2), 15);
    }

    private static void freeRefused() {
        check.says("Promise 36", "NONE for others.");
        DebtorsHouse x = Check.persons(0, 0);
        x.debt(0, 1, 5, 0, 0, 0);
        x.hold(1, 0);
        check.due("the greatest purse", x.free(1000000, 2), 5);
        check.due("the least one", x.free(0, 2), 0);
        for (int purse : new int[] {-1, 1000001, LOW, HIGH}) {
            for (int what = 0; what <= 2; what++) {
                check.due("free(" + purse + ", " + what + ")", x.free(purse, what), -1);
            }
        }
        for (int what : new int[] {-1, 3, LOW, HIGH}) {
            check.due("free(5, " + what + ")", x.free(5, what), -1);
        }
    }

    private static void freeDoesNothing() {
        check.says("Term 6", "Nothing is done by this; all is as DUE now.");
        DebtorsHouse x = Check.persons(3, 2);
        Check.act(x, "entry:7;", 0);
        x.debt(0, 1, 3600, 0, 100, 0);
        x.hold(1, 0);
        check.due("today", x.free(1000000, 2), 3604);
        x.day();
        check.due("a day later", x.free(1000000, 2), 3605);
        check.due("held", x.tell(0, 2), 1);
        check.due("fees", x.tell(0, 5), 7);
        check.due("none were paid", x.count(8), 0);
        check.due("coins", x.tell(0, 0) * 10 + x.tell(1, 0), 32);
        check.due("what is due", x.tell(0, 11), 3601);
        check.due("reckoned anew", x.about(0, 9), 1);
        check.due("once more as before", x.free(1000000, 2), 3605);
        DebtorsHouse y = Check.persons(0, 0, 0, 0, 0, 0, 0, 0, 0);
        for (int i = 0; i < 8; i++) {
            y.debt(i, (i + 1) % 8, i == 7 ? 5 : 20, 0, 0, 0);
            y.hold((i + 1) % 8, i);
        }
        for (int i = 0; i < 5; i++) {
            check.due("5 for the last, 15 for the first, time " + i, y.free(1000, 2), 20);
            check.due("seven without the last, time " + i, y.free(19, 0), 1);
        }
    }
}
