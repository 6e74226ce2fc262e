/** Term 1 and promises 1 to 9, sentence by sentence: a new object, persons, debts, rings. */
public final class DebtsTest {
    private static final Check check = new Check();
    private static final int LOW = Check.LOW;
    private static final int HIGH = Check.HIGH;

    public static void main(String[] args) {
        newObject();
        person();
        personRefused();
        debt();
        debtRefused();
        kinds();
        costs();
        pay();
        payRefused();
        parts();
        takenOff();
        reckoned();
        interestIsCut();
        about();
        aboutWhatHasEnded();
        aboutRefused();
        ringsOfLiveDebts();
        ringsInARow();
        theRing();
        leastRow();
        longestRing();
        row();
        netted();
        net();
        check.finish();
    }

    private static void newObject() {
        check.says("Constants", "`NONE = -1`: There is none.");
        check.due("NONE", DebtorsHouse.NONE, -1);
        check.says("Promise 1", "No PERSONS, DEBTS, ACTS; DAY 0, HOUR 0; no images.");
        DebtorsHouse used = Check.persons(5, 5);
        used.debt(0, 1, 5, 0, 0, 0);
        used.day();
        used.hour();
        used.image(0);
        Check.act(used, "held", 0);
        DebtorsHouse x = new DebtorsHouse();
        for (int what = 0; what <= 11; what++) {
            check.due("count(" + what + ")", x.count(what), 0);
        }
        for (int k = 0; k <= 2; k++) {
            check.due("again(" + k + ")", x.again(k), false);
        }
        check.due("no person", x.tell(0, 0), -100);
        check.due("no debt", x.about(0, 0), -100);
        check.due("no act", x.good(9999, 9999), -1);
        check.due("no fault", x.fault(0), 0);
        check.due("no place of a fault", x.fault(1), -1);
        check.due("no row at hand", x.row(0), -1);
        check.due("an empty tape", x.end(1), -1);
        check.due("an empty tape's end", x.end(0), 0);
        check.due("hour 1 comes next", x.hour(), 1);
        check.due("day 1 comes next", x.day(), 1);
    }

    private static void person() {
        check.says("Promise 2", "A PERSON with COINS, 0 .. 1000000: its number.");
        DebtorsHouse x = new DebtorsHouse();
        check.due("no coins", x.person(0, 9), 0);
        check.due("1000000 coins", x.person(1000000, 0), 1);
        check.due("coins of 0", x.tell(0, 0), 0);
        check.due("coins of 1", x.tell(1, 0), 1000000);
        check.due("children of 0", x.tell(0, 1), 9);
        check.due("children of 1", x.tell(1, 1), 0);
        check.says("Term 1", "PERSONS, at most 12, from 0 on, have COINS and CHILDREN, 0 .. 9.");
        for (int p = 2; p < 12; p++) {
            check.due("person " + p, x.person(100 * p, p - 2), p);
        }
        x.image(0);
        check.due("a 13th", x.person(1, 1), -1);
        check.due("persons", x.count(0), 12);
        for (int p = 2; p < 12; p++) {
            check.due("coins of " + p, x.tell(p, 0), 100 * p);
            check.due("children of " + p, x.tell(p, 1), p - 2);
        }
        check.due("no 13th is told", x.tell(12, 0), -100);
        check.due("again", x.again(0), true);
        check.due("a 13th, still", x.person(0, 0), -1);
    }

    private static void personRefused() {
        check.says("Promise 2", "NONE: there are 12, or other numbers.");
        DebtorsHouse x = new DebtorsHouse();
        for (int coins : new int[] {-1, 1000001, LOW, HIGH}) {
            check.due("coins " + coins, x.person(coins, 0), -1);
        }
        for (int children : new int[] {-1, 10, LOW, HIGH}) {
            check.due("children " + children, x.person(0, children), -1);
        }
        check.due("nobody came", x.count(0), 0);
        for (int p = 0; p < 12; p++) {
            x.person(p, 0);
        }
        check.due("there are 12", x.person(0, 0), -1);
        check.due("there are 12, and other numbers", x.person(-1, 10), -1);
        check.due("12 are told", x.count(0), 12);
        check.due("the last is as it was", x.tell(11, 0), 11);
    }

    private static void debt() {
        check.says("Promise 3", "A DEBT, of which since is at most now: its number.");
        DebtorsHouse x = Check.persons(10, 20);
        check.due("the least numbers", x.debt(0, 1, 1, 0, 0, 0), 0);
        check.due("the greatest numbers", x.debt(1, 0, 100000, 3, 200, 0), 1);
        Check.days(x, 3);
        check.due("since now", x.debt(1, 0, 7, 1, 2, 3), 2);
        check.due("since the first day", x.debt(1, 0, 7, 1, 2, 0), 3);
        check.due("since tomorrow", x.debt(1, 0, 7, 1, 2, 4), -1);
        check.says("Term 1", "DEBTS, at most 40, from 0 on: one PERSON owes another one a SUM, 1 .. 100000, of a RANK, "
            + "0 .. 3, at a RATE, 0 .. 200, since a DAY, up to now; it is TOLD on the DAY of now.");
        int[][] want = {{0, 1, 1, 0, 0, 0, 0}, {1, 0, 100000, 3, 200, 0, 0}, {1, 0, 7, 1, 2, 3, 3}, {1, 0, 7, 1, 2, 0, 3}};
        for (int d = 0; d < want.length; d++) {
            for (int what = 0; what < want[d].length; what++) {
                check.due("about(" + d + ", " + what + ")", x.about(d, what), want[d][what]);
            }
        }
        for (int d = 4; d < 40; d++) {
            check.due("debt " + d, x.debt(0, 1, d, 0, 0, 0), d);
        }
        check.due("a 41st", x.debt(0, 1, 1, 0, 0, 0), -1);
        check.due("debts", x.count(1), 40);
        check.due("the last one", x.about(39, 2), 39);
        check.due("no 41st is told", x.about(40, 2), -100);
    }

    private static void debtRefused() {
        check.says("Promise 3", "NONE: there are 40, there are no such two, they are one, or other numbers.");
        DebtorsHouse x = Check.persons(10, 20);
        x.day();
        for (int nobody : new int[] {-1, 2, 12, LOW, HIGH}) {
            check.due("no debtor " + nobody, x.debt(nobody, 1, 5, 0, 0, 0), -1);
            check.due("no creditor " + nobody, x.debt(0, nobody, 5, 0, 0, 0), -1);
            check.due("neither, " + nobody, x.debt(nobody, nobody, 5, 0, 0, 0), -1);
        }
        check.due("they are one", x.debt(1, 1, 5, 0, 0, 0), -1);
        check.due("they are one, the first", x.debt(0, 0, 5, 0, 0, 0), -1);
        for (int sum : new int[] {0, -1, 100001, LOW, HIGH}) {
            check.due("sum " + sum, x.debt(0, 1, sum, 0, 0, 0), -1);
        }
        for (int rank : new int[] {-1, 4, LOW, HIGH}) {
            check.due("rank " + rank, x.debt(0, 1, 5, rank, 0, 0), -1);
        }
        for (int rate : new int[] {-1, 201, LOW, HIGH}) {
            check.due("rate " + rate, x.debt(0, 1, 5, 0, rate, 0), -1);
        }
        for (int since : new int[] {-1, 2, 9999, LOW, HIGH}) {
            check.due("since " + since, x.debt(0, 1, 5, 0, 0, since), -1);
        }
        check.due("none came", x.count(1), 0);
        check.due("nothing is due", x.tell(0, 11), 0);
        for (int d = 0; d < 40; d++) {
            x.debt(0, 1, 1, 0, 0, 0);
        }
        check.due("there are 40", x.debt(0, 1, 1, 0, 0, 0), -1);
        x.pay(0, 1);
        check.due("there are 40, of which one is paid", x.debt(0, 1, 1, 0, 0, 0), -1);
        check.due("39 are live", x.count(2), 39);
    }

    private static void kinds() {
        check.says("Term 1", "A DEBT is LIVE (0), paid (1), forgiven (2), or released (3).");
        DebtorsHouse x = Check.persons(100, 0, 0);
        x.debt(0, 1, 10, 0, 0, 0);
        check.due("live", x.about(0, 7), 0);
        x.pay(0, 10);
        check.due("paid", x.about(0, 7), 1);
        x.debt(0, 1, 10, 0, 0, 0);
        x.least(1, 0, 900);
        x.compose(0, 900);
        check.due("forgiven", x.about(1, 7), 2);
        x.debt(0, 1, 1000, 0, 0, 0);
        x.surrender(0);
        check.due("released", x.about(2, 7), 3);
        check.due("none is live", x.count(2), 0);
    }

    private static void costs() {
        check.says("Promise 4", "COSTS, 1 .. 10000, come to a LIVE DEBT: what is DUE then.");
        DebtorsHouse x = Check.persons(1000, 0);
        x.debt(0, 1, 100, 0, 200, 0);
        check.due("1", x.costs(0, 1), 101);
        check.due("10000", x.costs(0, 10000), 10101);
        check.due("costs", x.about(0, 10), 10001);
        check.due("no coins move", x.tell(0, 0) * 10 + x.tell(1, 0), 10000);
        Check.days(x, 36);
        check.due("what is due, with interest, then", x.costs(0, 5), 10108);
        check.says("Promise 4", "NONE: there is none such, or others.");
        for (int debt : new int[] {-1, 1, 40, LOW, HIGH}) {
            check.due("no debt " + debt, x.costs(debt, 5), -1);
        }
        for (int coins : new int[] {0, -1, 10001, LOW, HIGH}) {
            check.due("costs " + coins, x.costs(0, coins), -1);
        }
        check.due("costs as they were", x.about(0, 10), 10006);
        DebtorsHouse y = Check.persons(100, 0);
        y.debt(0, 1, 100, 0, 0, 0);
        y.pay(0, 100);
        check.due("it is paid", y.costs(0, 5), -1);
        y.debt(0, 1, 100, 0, 0, 0);
        y.least(1, 0, 0);
        y.compose(0, 0);
        check.due("it is forgiven", y.costs(1, 5), -1);
        y.debt(0, 1, 100, 0, 0, 0);
        y.surrender(0);
        check.due("it is released", y.costs(2, 5), -1);
        check.due("nothing is due", y.count(10), 0);
    }

    private static void pay() {
        check.says("Promise 5", "A debtor pays so many of its COINS on a LIVE DEBT, at most what is DUE: what is DUE then.");
        DebtorsHouse x = Check.persons(120, 3);
        x.debt(0, 1, 100, 0, 0, 0);
        check.due("1", x.pay(0, 1), 99);
        check.due("the debtor's coins", x.tell(0, 0), 119);
        check.due("the creditor's coins", x.tell(1, 0), 4);
        check.due("all but 1", x.pay(0, 98), 1);
        check.due("it is live", x.about(0, 7), 0);
        check.due("the last", x.pay(0, 1), 0);
        check.due("coins are left", x.tell(0, 0), 20);
        check.due("and have come", x.tell(1, 0), 103);
        x.debt(0, 1, 50, 0, 0, 0);
        check.due("all the coins it has", x.pay(1, 20), 30);
        check.due("none is left", x.tell(0, 0), 0);
        x.debt(1, 0, 5, 0, 0, 0);
        check.due("all at once", x.pay(2, 5), 0);
    }

    private static void payRefused() {
        check.says("Promise 5", "NONE: there is none such, fewer than 1, or it has not so many, or more than is DUE.");
        DebtorsHouse x = Check.persons(40, 1000);
        x.debt(0, 1, 50, 0, 0, 0);
        x.debt(1, 0, 20, 0, 0, 0);
        for (int debt : new int[] {-1, 2, 40, LOW, HIGH}) {
            check.due("no debt " + debt, x.pay(debt, 1), -1);
        }
        for (int coins : new int[] {0, -1, -5, LOW}) {
            check.due("coins " + coins, x.pay(0, coins), -1);
        }
        check.due("one more than it has", x.pay(0, 41), -1);
        check.due("what is due, which it has not", x.pay(0, 50), -1);
        check.due("one more than is due", x.pay(1, 21), -1);
        check.due("as many as there can be", x.pay(1, HIGH), -1);
        check.due("dues as they were", x.about(0, 11) * 100 + x.about(1, 11), 5020);
        check.due("coins as they were", x.tell(0, 0) * 10000 + x.tell(1, 0), 401000);
        x.pay(1, 20);
        check.due("it is paid", x.pay(1, 1), -1);
        x.costs(0, 1);
        x.surrender(0);
        check.due("it is released", x.pay(0, 1), -1);
    }

    private static void parts() {
        check.says("Term 1", "PRINCIPAL is what is left of the SUM, COSTS are what was put on it and is not paid, INTEREST:");
        DebtorsHouse x = Check.persons(10000, 0);
        x.debt(0, 1, 3600, 0, 100, 0);
        check.due("principal at first", x.about(0, 8), 3600);
        check.due("interest at first", x.about(0, 9), 0);
        check.due("costs at first", x.about(0, 10), 0);
        x.costs(0, 30);
        x.costs(0, 20);
        Check.days(x, 7);
        check.due("costs", x.about(0, 10), 50);
        check.due("interest", x.about(0, 9), 7);
        check.says("Term 1", "DUE: all three together.");
        check.due("due", x.about(0, 11), 3657);
        x.pay(0, 657);
        check.due("what is left of the sum", x.about(0, 8), 3000);
        check.due("the sum", x.about(0, 2), 3600);
        check.due("due then", x.about(0, 11), 3000);
    }

    /** What is due is 10 of costs, 5 of interest, 1800 of principal. */
    private static DebtorsHouse threeParts() {
        DebtorsHouse x = Check.persons(5000, 0);
        x.debt(0, 1, 1800, 0, 200, 0);
        x.costs(0, 10);
        Check.days(x, 5);
        return x;
    }

    private static void takenOff() {
        check.says("Term 1", "that goes to COSTS first, then INTEREST, then PRINCIPAL;");
        int[][] rows = {{1, 9, 5, 1800}, {9, 1, 5, 1800}, {10, 0, 5, 1800}, {11, 0, 4, 1800}, {14, 0, 1, 1800},
            {15, 0, 0, 1800}, {16, 0, 0, 1799}, {1814, 0, 0, 1}};
        for (int[] row : rows) {
            DebtorsHouse x = threeParts();
            check.due("pay(0, " + row[0] + ")", x.pay(0, row[0]), 1815 - row[0]);
            check.due("costs, of " + row[0], x.about(0, 10), row[1]);
            check.due("interest, of " + row[0], x.about(0, 9), row[2]);
            check.due("principal, of " + row[0], x.about(0, 8), row[3]);
            check.due("live, of " + row[0], x.about(0, 7), 0);
        }
        check.says("Term 1", "a DEBT of which nothing is DUE then is paid.");
        DebtorsHouse x = threeParts();
        x.pay(0, 1814);
        check.due("1 is due", x.about(0, 7), 0);
        check.due("it has not ended", x.about(0, 14), -1);
        check.due("nothing is due", x.pay(0, 1), 0);
        check.due("it is paid", x.about(0, 7), 1);
        check.due("it has ended", x.about(0, 14), 5);
        DebtorsHouse y = threeParts();
        y.debt(1, 0, 1815, 0, 0, 5);
        y.net();
        check.due("netted to nothing", y.about(0, 7), 1);
        check.due("and the other", y.about(1, 7), 1);
    }

    private static void reckoned() {
        check.says("Term 1", "It is reckoned whenever something is taken off:");
        DebtorsHouse x = Check.persons(1000, 0);
        x.debt(0, 1, 900, 0, 200, 0);
        x.costs(0, 1);
        x.day();
        check.due("a half is cut", x.about(0, 9), 0);
        x.costs(0, 1);
        x.about(0, 9);
        x.image(0);
        x.day();
        check.due("two halves", x.about(0, 9), 1);
        x.again(0);
        check.due("pay, as one half is cut", x.pay(0, 1), 901);
        x.day();
        check.due("one more half alone", x.about(0, 9), 0);
        x.day();
        check.due("two of these", x.about(0, 9), 1);
        x.again(0);
        x.debt(1, 0, 1, 0, 0, 0);
        x.net();
        x.day();
        check.due("net reckons, too", x.about(0, 9), 0);
        x.again(0);
        x.person(50, 0);
        x.buy(0, 2, 50);
        x.day();
        check.due("buying takes nothing off", x.about(0, 9), 1);
        check.says("Term 1", "for the DAYS since it was last reckoned (at first: since its DAY), "
            + "and what was reckoned before and is not paid.");
        DebtorsHouse y = Check.persons(10000, 0);
        Check.days(y, 4);
        y.debt(0, 1, 3600, 0, 100, 1);
        check.due("since its day, not since it was told", y.about(0, 9), 3);
        y.pay(0, 1);
        check.due("what is not paid", y.about(0, 9), 2);
        Check.days(y, 10);
        check.due("and ten days more", y.about(0, 9), 12);
        y.pay(0, 12 + 1800);
        check.due("all paid", y.about(0, 9), 0);
        Check.days(y, 3);
        check.due("of the half of the principal", y.about(0, 9), 1);
        y.pay(0, 1);
        y.day();
        check.due("what was cut is gone", y.about(0, 9), 0);
    }

    private static void interestIsCut() {
        check.says("Term 1", "PRINCIPAL * RATE * DAYS / 360000, cut,");
        int[][] rows = {{1800, 200, 1, 1}, {1799, 200, 1, 0}, {1, 200, 200, 0}, {1, 1, 1, 0}, {100000, 0, 200, 0},
            {1000, 200, 10, 5}, {999, 7, 10, 0}, {93264, 193, 1, 49}, {93265, 193, 1, 50},
            {100000, 200, 1, 55}, {100000, 200, 107, 5944}, {100000, 200, 108, 6000}, {100000, 200, 215, 11944}};
        for (int[] row : rows) {
            DebtorsHouse x = Check.persons(0, 0);
            x.debt(0, 1, row[0], 0, row[1], 0);
            Check.days(x, row[2]);
            check.due(row[0] + " * " + row[1] + " * " + row[2] + " / 360000", x.about(0, 9), row[3]);
        }
        DebtorsHouse x = Check.persons(0, 0);
        x.debt(0, 1, 360, 0, 200, 0);
        x.costs(0, 10000);
        Check.days(x, 5);
        check.due("none on costs", x.about(0, 9), 1);
    }

    private static void about() {
        check.says("Promise 6", "Of a DEBT, what 0: debtor, 1: creditor, 2: SUM, 3: RANK, 4: RATE, 5: since, 6: DAY on which "
            + "it was TOLD, 7: LIVE 0, paid 1, forgiven 2, released 3, 8: PRINCIPAL, 9: INTEREST, 10: COSTS, 11: DUE");
        check.says("Promise 6", "12: 1 if it was bought, else 0, 13: LACK, 14: DAY on which it ended (NONE).");
        DebtorsHouse x = Check.persons(50, 60, 9);
        Check.days(x, 20);
        x.debt(1, 0, 7200, 2, 150, 4);
        aboutIs("of a new one", x, 0, 1, 0, 7200, 2, 150, 4, 20, 0, 7200, 48, 0, 7248, 0, 0, -1);
        x.costs(0, 7);
        x.pay(0, 17);
        x.buy(0, 2, 3);
        Check.days(x, 3);
        aboutIs("of one that was bought", x, 0, 1, 2, 7200, 2, 150, 4, 20, 0, 7200, 47, 0, 7247, 1, 0, -1);
        x.surrender(1);
        aboutIs("of one that was released", x, 0, 1, 2, 7200, 2, 150, 4, 20, 3, 0, 0, 0, 0, 1, 7247 - 43, 23);
    }

    private static void aboutIs(String which, DebtorsHouse x, int debt, int... want) {
        for (int what = 0; what < want.length; what++) {
            check.due("about(" + debt + ", " + what + ") " + which, x.about(debt, what), want[what]);
        }
    }

    private static void aboutWhatHasEnded() {
        check.says("Promise 6", "(8 .. 11: 0 if it is not LIVE)");
        DebtorsHouse x = Check.persons(200, 0);
        x.day();
        x.debt(0, 1, 20, 1, 200, 0);
        x.costs(0, 5);
        x.pay(0, 25);
        Check.days(x, 200);
        aboutIs("paid", x, 0, 0, 1, 20, 1, 200, 0, 1, 1, 0, 0, 0, 0, 0, 0, 1);
        x.debt(0, 1, 1800, 0, 200, 0);
        x.costs(1, 5);
        x.least(1, 0, 10);
        x.compose(0, 10);
        Check.days(x, 10);
        aboutIs("forgiven", x, 1, 0, 1, 1800, 0, 200, 0, 201, 2, 0, 0, 0, 0, 0, 0, 201);
        x.debt(0, 1, 1800, 3, 200, 11);
        x.costs(2, 5);
        x.surrender(0);
        aboutIs("released", x, 2, 0, 1, 1800, 3, 200, 11, 211, 3, 0, 0, 0, 0, 0, 2005 - 155, 211);
    }

    private static void aboutRefused() {
        check.says("Promise 6", "-100 if there is none such, or for another what.");
        DebtorsHouse x = Check.persons(0, 0);
        x.debt(0, 1, 5, 0, 0, 0);
        for (int debt : new int[] {-1, 1, 39, 40, LOW, HIGH}) {
            for (int what = 0; what <= 14; what += 7) {
                check.due("about(" + debt + ", " + what + ")", x.about(debt, what), -100);
            }
        }
        for (int what : new int[] {-1, 15, 16, LOW, HIGH}) {
            check.due("about(0, " + what + ")", x.about(0, what), -100);
        }
    }

    private static void ringsOfLiveDebts() {
        check.says("Term 1", "A RING: LIVE DEBTS in a row, two or more,");
        DebtorsHouse x = Check.persons(9, 0);
        check.due("no debt", x.ring(), -1);
        x.debt(0, 1, 5, 0, 0, 0);
        check.due("one debt", x.ring(), -1);
        x.debt(0, 1, 5, 0, 0, 0);
        check.due("two side by side", x.ring(), -1);
        x.debt(1, 0, 7, 0, 0, 0);
        check.due("two", x.ring(), 2);
        x.image(0);
        x.pay(0, 5);
        check.due("the other of the two", x.ring(), 2);
        check.due("which is debt 1", x.row(0), 1);
        x.least(1, 0, 0);
        x.compose(0, 0);
        check.due("the first are paid and forgiven", x.ring(), -1);
        x.again(0);
        x.surrender(1);
        check.due("the last is released", x.ring(), -1);
    }

    private static void ringsInARow() {
        check.says("Term 1", "each owed by the one to whom the DEBT ahead is owed, the first by the one to whom the last is owed, "
            + "no PERSON owing two of them.");
        DebtorsHouse x = Check.persons(0, 0, 0, 0);
        x.debt(2, 0, 5, 0, 0, 0);
        x.debt(1, 2, 7, 0, 0, 0);
        check.due("the last is not owed to the first", x.ring(), -1);
        x.debt(1, 0, 7, 0, 0, 0);
        check.due("the wrong way round", x.ring(), -1);
        x.debt(0, 1, 9, 0, 0, 0);
        check.due("0 and 1 owe one another", x.ring(), 2);
        DebtorsHouse y = Check.persons(0, 0, 0, 0, 0);
        y.debt(0, 1, 5, 0, 0, 0);
        y.debt(1, 2, 5, 0, 0, 0);
        y.debt(2, 3, 5, 0, 0, 0);
        y.debt(3, 1, 5, 0, 0, 0);
        check.due("one leads into it, but is not in it", y.ring(), 3);
        check.due("it begins behind that", y.row(0), 1);
        y.debt(1, 0, 5, 0, 0, 0);
        y.debt(1, 4, 5, 0, 0, 0);
        y.debt(4, 1, 5, 0, 0, 0);
        check.due("1 owes in three rings, and one debt in each", y.ring(), 2);
        check.due("of the least", y.row(0) * 10 + y.row(1), 4);
        y.buy(4, 3, 0);
        check.due("bought, it is owed to another", y.ring(), 2);
        check.due("who owes it himself", y.row(0) * 10 + y.row(1), 34);
        check.says("Term 1", "It begins with its least DEBT.");
        DebtorsHouse z = Check.persons(0, 0, 0, 0);
        z.debt(3, 0, 5, 0, 0, 0);
        z.debt(2, 1, 5, 0, 0, 0);
        z.debt(0, 2, 5, 0, 0, 0);
        z.debt(1, 3, 5, 0, 0, 0);
        check.due("four", z.ring(), 4);
        check.due("0, 2, 1, 3", ((z.row(0) * 10 + z.row(1)) * 10 + z.row(2)) * 10 + z.row(3), 213);
    }

    private static void theRing() {
        check.says("Term 1", "THE RING: of all that with the fewest DEBTS;");
        check.says("Promise 7", "THE RING is at hand: how many DEBTS.");
        DebtorsHouse x = Check.persons(0, 0, 0, 0);
        x.debt(0, 1, 5, 0, 0, 0);
        x.debt(1, 2, 5, 0, 0, 0);
        x.debt(2, 3, 5, 0, 0, 0);
        x.debt(3, 0, 5, 0, 0, 0);
        check.due("four", x.ring(), 4);
        x.debt(2, 0, 5, 0, 0, 0);
        check.due("three", x.ring(), 3);
        check.due("at hand", x.row(0) * 100 + x.row(1) * 10 + x.row(2), 14);
        x.debt(3, 2, 5, 0, 0, 0);
        check.due("two, of greater numbers", x.ring(), 2);
        check.due("at hand are these", x.row(0) * 10 + x.row(1), 25);
        check.due("count(7)", x.count(7), 2);
        check.says("Promise 7", "NONE: there is none (at hand is none then).");
        x.least(0, 2, 0);
        x.least(3, 2, 0);
        x.least(2, 3, 0);
        x.least(0, 3, 0);
        x.compose(2, 0);
        x.compose(3, 0);
        check.due("two are in the row yet", x.count(7), 2);
        check.due("none", x.ring(), -1);
        check.due("row(0) then", x.row(0), -1);
        check.due("count(7) then", x.count(7), 0);
        check.due("none, once more", x.ring(), -1);
    }

    private static void leastRow() {
        check.says("Term 1", "of several the least row.");
        DebtorsHouse x = Check.persons(0, 0, 0, 0, 0);
        x.debt(4, 3, 5, 0, 0, 0);
        x.debt(1, 2, 5, 0, 0, 0);
        x.debt(0, 1, 5, 0, 0, 0);
        x.debt(1, 2, 5, 0, 0, 0);
        x.debt(2, 0, 5, 0, 0, 0);
        x.debt(2, 0, 5, 0, 0, 0);
        check.due("of four of them", x.ring(), 3);
        check.due("1, 4, 2", x.row(0) * 100 + x.row(1) * 10 + x.row(2), 142);
        DebtorsHouse y = Check.persons(0, 0, 0, 0, 0);
        y.debt(0, 1, 5, 0, 0, 0);
        y.debt(2, 3, 5, 0, 0, 0);
        y.debt(3, 2, 5, 0, 0, 0);
        y.debt(1, 0, 5, 0, 0, 0);
        check.due("0, 3 is less than 1, 2", y.ring() * 100 + y.row(0) * 10 + y.row(1), 203);
        DebtorsHouse z = Check.persons(0, 0, 0, 0, 0);
        z.debt(0, 1, 5, 0, 0, 0);
        z.debt(3, 0, 5, 0, 0, 0);
        z.debt(2, 0, 5, 0, 0, 0);
        z.debt(1, 2, 5, 0, 0, 0);
        z.debt(1, 3, 5, 0, 0, 0);
        check.due("0, 3, 2 is less than 0, 4, 1", z.ring() * 1000 + z.row(0) * 100 + z.row(1) * 10 + z.row(2), 3032);
        z.debt(2, 0, 5, 0, 0, 0);
        z.least(0, 2, 0);
        check.due("0, 3, 2, with one more to end it", z.ring() * 10 + z.row(2), 32);
    }

    private static void longestRing() {
        check.says("Promise 7", "THE RING is at hand: how many DEBTS.");
        DebtorsHouse x = Check.persons(0, 0, 0, 0, 0, 0, 0, 0, 0, 0, 0, 0);
        for (int i = 0; i < 12; i++) {
            check.due("not closed yet", x.ring(), -1);
            x.debt((i * 5 + 5) % 12, i * 5 % 12, 5 + i, 0, 0, 0);
        }
        check.due("of all persons", x.ring(), 12);
        check.due("the first", x.row(0), 0);
        for (int k = 1; k < 12; k++) {
            check.due("backwards", x.row(k), 12 - k);
        }
        check.due("no 13th", x.row(12), -1);
        check.due("the least due", x.net(), 5);
        check.due("broken", x.ring(), -1);
    }

    private static void row() {
        DebtorsHouse x = Check.persons(50, 0, 0);
        check.says("Promise 8", "NONE: there is none such.");
        check.due("nothing is at hand", x.row(0), -1);
        x.debt(1, 0, 5, 0, 0, 0);
        x.debt(2, 1, 5, 0, 0, 0);
        x.debt(0, 2, 5, 0, 0, 0);
        check.due("before ring()", x.row(0), -1);
        x.ring();
        for (int k : new int[] {-1, 3, 11, 12, 39, 40, LOW, HIGH}) {
            check.due("row(" + k + ")", x.row(k), -1);
        }
        check.says("Promise 8", "DEBT k of the row at hand, from 0 on.");
        check.due("row(0)", x.row(0), 0);
        check.due("row(1)", x.row(1), 2);
        check.due("row(2)", x.row(2), 1);
        x.pay(2, 5);
        x.debt(1, 2, 5, 0, 0, 0);
        check.due("as it was at hand", x.row(0) * 100 + x.row(1) * 10 + x.row(2), 21);
        check.due("three of them", x.count(7), 3);
        x.ring();
        check.due("of another ring", x.row(0) * 10 + x.row(1), 13);
        check.due("which has two", x.row(2), -1);
    }

    private static void netted() {
        check.says("Term 1", "NETTED, the least DUE of its DEBTS is taken off each (no COINS move).");
        for (int least = 0; least < 3; least++) {
            DebtorsHouse x = Check.persons(10, 20, 30);
            for (int d = 0; d < 3; d++) {
                x.debt(d, (d + 1) % 3, d == least ? 30 : 50, 0, 0, 0);
            }
            check.due("least is " + least, x.net(), 30);
            for (int d = 0; d < 3; d++) {
                check.due("due of " + d, x.about(d, 11), d == least ? 0 : 20);
                check.due("state of " + d, x.about(d, 7), d == least ? 1 : 0);
                check.due("coins of " + d, x.tell(d, 0), 10 * d + 10);
            }
        }
        DebtorsHouse y = Check.persons(0, 0, 0);
        y.debt(0, 1, 1800, 0, 200, 0);
        y.debt(1, 0, 1803, 0, 0, 0);
        y.costs(0, 5);
        Check.days(y, 2);
        check.due("with interest and costs the first has more", y.net(), 1803);
        check.due("costs went first, then interest", y.about(0, 8), 4);
        check.due("nothing but principal is left", y.about(0, 11), 4);
        DebtorsHouse z = Check.persons(0, 0);
        z.debt(0, 1, 40, 0, 0, 0);
        z.debt(1, 0, 40, 0, 0, 0);
        check.due("as much on both", z.net(), 40);
        check.due("both are paid", z.about(0, 7) + z.about(1, 7), 2);
    }

    private static void net() {
        DebtorsHouse x = Check.persons(10, 20, 30);
        check.says("Promise 9", "NONE: there is none.");
        check.due("no debts", x.net(), -1);
        x.debt(0, 1, 50, 0, 0, 0);
        x.debt(1, 2, 40, 0, 0, 0);
        check.due("no ring", x.net(), -1);
        check.due("nothing is taken off", x.count(10), 90);
        x.debt(2, 0, 30, 0, 0, 0);
        x.costs(2, 15);
        x.costs(0, 7);
        x.hold(1, 0);
        x.hold(2, 1);
        check.says("Promise 9", "THE RING is NETTED: by how much; at hand it is, too.");
        check.due("by how much", x.net(), 40);
        check.due("at hand", x.count(7), 3);
        check.due("row(0)", x.row(0), 0);
        check.due("row(1)", x.row(1), 1);
        check.due("row(2)", x.row(2), 2);
        check.due("rest of the first", x.about(0, 11), 17);
        check.due("rest of the last", x.about(2, 11), 5);
        check.due("still detained", x.tell(0, 10), 2);
        check.due("detained no more", x.tell(1, 10), 0);
        check.due("but held", x.tell(1, 2), 1);
        check.says("Promise 9", "NONE: there is none.");
        check.due("none any more", x.net(), -1);
        check.due("none is at hand then", x.row(0), -1);
        check.due("no row", x.count(7), 0);
        check.due("dues as they were", x.count(10), 22);
    }
}
