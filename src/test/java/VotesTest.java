/** Term 4 and promises 27 to 32, sentence by sentence: leasts, offers that bind, composing, buying, the swing. */
public final class VotesTest {
    private static final Check check = new Check();
    private static final int LOW = Check.LOW;
    private static final int HIGH = Check.HIGH;

    public static void main(String[] args) {
        least();
        leastRefused();
        voters();
        boughtDebts();
        signs();
        binds();
        bindsByAct();
        bindsRefused();
        offer();
        offerRefused();
        compose();
        composeCut();
        composeRefused();
        composeOfMany();
        buy();
        buyRefused();
        buyerHasItsOwnLeast();
        swing();
        swingRefused();
        swingTies();
        swingCosts();
        swingOfTen();
        swingOfOthersDebts();
        swingByNumber();
        swingWithoutBuyers();
        swingDoesNothing();
        check.finish();
    }

    private static void least() {
        check.says("Term 4", "LEAST of a creditor for a debtor, 0 .. 1000 thousandths (1000 at first).");
        check.says("Promise 27", "LEAST of a creditor for a debtor from now on: true;");
        DebtorsHouse x = Check.persons(0, 0, 0);
        x.debt(0, 1, 100, 0, 0, 0);
        check.due("1000 at first", x.offer(0), 1000);
        for (int thousandths : new int[] {0, 1000, 1, 999, 400}) {
            check.due("least " + thousandths, x.least(1, 0, thousandths), true);
            check.due("offer with least " + thousandths, x.offer(0), thousandths);
        }
        x.least(0, 1, 3);
        x.least(2, 0, 5);
        x.least(1, 2, 7);
        check.due("not that of another two", x.offer(0), 400);
        x.debt(1, 0, 5, 0, 0, 0);
        check.due("the other way round", x.offer(1), 3);
        x.debt(2, 1, 5, 0, 0, 0);
        check.due("set ahead of the debt", x.offer(2), 7);
        x.debt(0, 1, 50, 0, 0, 0);
        check.due("for that debtor, whatever the debt", x.offer(0), 400);
    }

    private static void leastRefused() {
        check.says("Promise 27", "false: there are no such two, or another one.");
        DebtorsHouse x = Check.persons(0, 0);
        x.debt(0, 1, 100, 0, 0, 0);
        x.least(1, 0, 321);
        for (int nobody : new int[] {-1, 2, 11, 12, LOW, HIGH}) {
            check.due("creditor " + nobody, x.least(nobody, 0, 5), false);
            check.due("debtor " + nobody, x.least(1, nobody, 5), false);
            check.due("neither, " + nobody, x.least(nobody, nobody, 5), false);
        }
        check.due("one person", x.least(0, 0, 5), false);
        check.due("one person, the other", x.least(1, 1, 5), false);
        for (int thousandths : new int[] {-1, 1001, LOW, HIGH}) {
            check.due("least " + thousandths, x.least(1, 0, thousandths), false);
        }
        check.due("least as it was", x.offer(0), 321);
    }

    private static void voters() {
        check.says("Term 4", "VOTERS on an offer of r thousandths by a debtor: its creditors by LIVE DEBTS;");
        DebtorsHouse x = Check.persons(100, 0, 0, 0);
        check.due("no debts", x.binds(0, 1000), false);
        x.debt(0, 1, 10, 0, 0, 0);
        x.debt(0, 2, 10, 0, 0, 0);
        x.debt(0, 3, 10, 0, 0, 0);
        x.debt(1, 0, 10, 0, 0, 0);
        x.least(1, 0, 0);
        Check.act(x, "number:100;worth:0;", 0);
        check.due("three of them", x.binds(0, 999), false);
        x.least(2, 0, 0);
        check.due("two sign", x.binds(0, 999), false);
        x.pay(2, 10);
        check.due("two of them, as one is paid", x.binds(0, 0), true);
        x.pay(0, 10);
        x.pay(1, 10);
        check.says("Term 4", "The offer BINDS if there are VOTERS,");
        Check.act(x, "number:0;worth:0;", 0);
        check.due("none, as all are paid", x.binds(0, 1000), false);
        check.due("no offer", x.offer(0), -1);
        check.due("of its own debtor", x.binds(1, 0), true);
    }

    private static void boughtDebts() {
        check.says("Term 4", "a DEBT that was bought counts for nothing if buyer tells 0.");
        DebtorsHouse x = Check.persons(0, 100, 100, 100);
        x.debt(0, 1, 10, 0, 0, 0);
        x.debt(0, 2, 10, 0, 0, 0);
        x.least(3, 0, 0);
        x.least(1, 0, 100);
        x.buy(1, 3, 1);
        Check.act(x, "buyer:2;", 0);
        check.due("a bought debt counts", x.binds(0, 99), false);
        check.due("with both", x.binds(0, 100), true);
        Check.act(x, "buyer:no;number:100;worth:100;", 0);
        check.due("counts for nothing", x.binds(0, 99), false);
        check.due("the other alone", x.offer(0), 100);
        x.least(3, 0, 1000);
        check.due("its owner has no voice", x.offer(0), 100);
        check.says("Term 4", "Each has the WORTH of what is DUE to it (of DEBTS that count; none if there are none of these);");
        x.debt(0, 3, 1, 0, 0, 0);
        check.due("with one that was not bought it has a voice", x.offer(0), 1000);
        Check.act(x, "buyer:no;number:0;worth:91;", 0);
        check.due("10 of 11 is enough for 90", x.binds(0, 100), false);
        x.costs(0, 1);
        check.due("11 of 12 is more than 91", x.binds(0, 100), true);
        x.costs(1, 500);
        check.due("costs of what counts for nothing", x.binds(0, 100), true);
        x.found(0, 1);
        x.pay(2, 1);
        x.buy(0, 3, 1);
        check.due("all were bought", x.offer(0), -1);
        check.due("none counts, so there are no voters", x.binds(0, 1000), false);
        x.buy(0, 1, 1);
        check.due("bought back it was bought", x.binds(0, 1000), false);
        DebtorsHouse y = Check.persons(0, 100, 100, 100);
        y.debt(0, 1, 10, 0, 0, 0);
        y.debt(0, 1, 30, 0, 0, 0);
        y.debt(0, 2, 10, 0, 0, 0);
        y.buy(0, 2, 0);
        y.least(2, 0, 0);
        Check.act(y, "buyer:no;number:50;worth:25;", 0);
        check.due("its own 10 of 40, without the 10 it bought", y.binds(0, 0), true);
        Check.act(y, "buyer:no;number:50;worth:26;", 0);
        check.due("not 26 of 100", y.binds(0, 0), false);
        Check.act(y, "number:50;worth:40;", 0);
        check.due("20 of 50, with what it bought", y.binds(0, 0), true);
    }

    private static void signs() {
        check.says("Term 4", "it SIGNS if r is its LEAST or more.");
        DebtorsHouse x = Check.persons(0, 0);
        x.debt(0, 1, 100, 0, 0, 0);
        for (int least : new int[] {0, 1, 2, 499, 998, 999, 1000}) {
            x.least(1, 0, least);
            check.due("r below " + least, x.binds(0, least - 1), false);
            check.due("r " + least, x.binds(0, least), true);
            check.due("r above " + least, x.binds(0, Math.min(1000, least + 1)), true);
            check.due("the least offer", x.offer(0), least);
        }
    }

    private static void binds() {
        check.says("Term 4", "100 times those who SIGN are number times all at least, "
            + "and 100 times their WORTH is worth times all WORTH at least.");
        DebtorsHouse x = Check.persons(0, 0, 0, 0, 0);
        x.debt(0, 1, 300, 0, 0, 0);
        x.debt(0, 2, 100, 0, 0, 0);
        check.due("1000 at first", x.binds(0, 1000), true);
        check.due("nobody signs", x.binds(0, 999), false);
        x.least(1, 0, 500);
        check.due("one of two, 300 of 400", x.binds(0, 500), true);
        x.costs(1, 1);
        check.due("300 of 401", x.binds(0, 500), false);
        x.costs(0, 3);
        check.due("303 of 404", x.binds(0, 500), true);
        x.debt(0, 3, 1, 0, 0, 0);
        check.due("one of three", x.binds(0, 500), false);
        x.debt(0, 1, 1000, 0, 0, 0);
        check.due("two debts are one voter", x.binds(0, 500), false);
        x.least(3, 0, 200);
        check.due("two of three", x.binds(0, 500), true);
        x.debt(0, 4, 1, 0, 0, 0);
        check.due("two of four", x.binds(0, 500), true);
        DebtorsHouse y = Check.persons(0, 0, 0);
        y.debt(0, 1, 5400, 0, 200, 0);
        y.debt(0, 2, 1801, 0, 0, 0);
        y.least(1, 0, 500);
        check.due("5400 of 7201", y.binds(0, 500), false);
        y.day();
        check.due("5403 of 7204, with interest", y.binds(0, 500), true);
    }

    private static void bindsByAct() {
        check.says("Term 4", "100 times those who SIGN are number times all at least, "
            + "and 100 times their WORTH is worth times all WORTH at least.");
        DebtorsHouse x = Check.persons(0, 0, 0, 0);
        x.debt(0, 1, 50, 0, 0, 0);
        x.debt(0, 2, 50, 0, 0, 0);
        x.debt(0, 3, 50, 0, 0, 0);
        x.least(1, 0, 300);
        x.image(0);
        String[] texts = {"number:33;worth:33;", "number:34;worth:33;", "number:33;worth:34;", "number:0;worth:0;",
            "number:0;worth:33;", "number:100;worth:0;"};
        boolean[] one = {true, false, false, true, true, false};
        boolean[] nobody = {false, false, false, true, false, false};
        for (int i = 0; i < texts.length; i++) {
            x.again(0);
            Check.act(x, texts[i], 0);
            check.due("one of three by " + texts[i], x.binds(0, 300), one[i]);
            check.due("nobody by " + texts[i], x.binds(0, 299), nobody[i]);
            check.due("everybody by " + texts[i], x.binds(0, 1000), true);
            check.due("least offer by " + texts[i], x.offer(0), nobody[i] ? 0 : one[i] ? 300 : 1000);
        }
        x.again(0);
        Check.act(x, "number:100;worth:100;", 0);
        x.least(2, 0, 400);
        x.least(3, 0, 999);
        check.due("all but one", x.binds(0, 998), false);
        check.due("all", x.binds(0, 999), true);
        Check.act(x, "number:0;worth:0;", 1);
        check.due("by the act of now", x.offer(0), 999);
        x.day();
        check.due("by the act of then", x.offer(0), 0);
        DebtorsHouse y = Check.persons(0, 0, 0);
        Check.act(y, "number if debts=2:100;number:0;worth:0;", 0);
        y.debt(0, 1, 50, 0, 0, 0);
        check.due("told of the debtor", y.binds(0, 0), true);
        y.debt(0, 2, 50, 0, 0, 0);
        y.least(1, 0, 0);
        check.due("told of the debtor with two", y.binds(0, 0), false);
    }

    private static void bindsRefused() {
        check.says("Promise 28", "Whether an offer of r, 0 .. 1000, by a debtor BINDS. False for others.");
        DebtorsHouse x = Check.persons(0, 0);
        x.debt(0, 1, 300, 0, 0, 0);
        x.least(1, 0, 0);
        check.due("r 0", x.binds(0, 0), true);
        check.due("r 1000", x.binds(0, 1000), true);
        for (int r : new int[] {-1, 1001, LOW, HIGH}) {
            check.due("r " + r, x.binds(0, r), false);
        }
        for (int nobody : new int[] {-1, 2, 12, LOW, HIGH}) {
            check.due("by " + nobody, x.binds(nobody, 500), false);
        }
        check.due("the creditor owes nothing", x.binds(1, 1000), false);
        Check.act(x, "number:0;worth:0;", 0);
        check.due("r -1 where nobody need sign", x.binds(0, -1), false);
    }

    private static void offer() {
        check.says("Promise 29", "The least offer that BINDS.");
        DebtorsHouse x = Check.persons(0, 0, 0, 0);
        x.debt(0, 1, 100, 0, 0, 0);
        x.debt(0, 2, 200, 0, 0, 0);
        x.debt(0, 3, 300, 0, 0, 0);
        check.due("the greatest", x.offer(0), 1000);
        x.least(1, 0, 100);
        x.least(2, 0, 300);
        x.least(3, 0, 200);
        check.due("400 of 600 is too few", x.offer(0), 300);
        x.least(2, 0, 150);
        check.due("300 of 600 is too few", x.offer(0), 200);
        Check.act(x, "worth:50;", 0);
        check.due("two of three, half in worth", x.offer(0), 150);
        x.least(1, 0, 1000);
        x.least(2, 0, 1000);
        check.due("the number is lacking", x.offer(0), 1000);
        for (int c = 1; c <= 3; c++) {
            x.least(c, 0, 0);
        }
        check.due("the least of all", x.offer(0), 0);
        DebtorsHouse y = Check.persons(0, 0, 0, 0);
        y.debt(1, 0, 100, 0, 0, 0);
        y.least(0, 1, 77);
        check.due("to the first person", y.offer(1), 77);
        DebtorsHouse z = Check.persons(0, 0, 0, 0, 0, 0, 0, 0, 0, 0, 0, 0);
        z.debt(0, 11, 100, 0, 0, 0);
        z.least(11, 0, 78);
        check.due("to the last person", z.offer(0), 78);
    }

    private static void offerRefused() {
        check.says("Promise 29", "NONE: there is none (such).");
        DebtorsHouse x = Check.persons(9, 0, 0, 0);
        check.due("no voters", x.offer(0), -1);
        x.debt(0, 1, 9, 0, 0, 0);
        for (int nobody : new int[] {-1, 4, 12, LOW, HIGH}) {
            check.due("offer(" + nobody + ")", x.offer(nobody), -1);
        }
        check.due("the creditor has no voters", x.offer(1), -1);
        x.pay(0, 9);
        check.due("no voters any more", x.offer(0), -1);
    }

    private static void compose() {
        check.says("Promise 30", "COMPOSED: how many COINS were paid.");
        check.says("Term 4", "COMPOSED (the offer BINDS, and the debtor has the COINS): of each LIVE DEBT DUE * r / 1000, cut, "
            + "is paid, the rest forgiven (if there is none, it is paid).");
        DebtorsHouse x = Check.persons(60, 0, 0);
        x.debt(0, 1, 101, 0, 0, 0);
        x.debt(0, 2, 19, 0, 0, 0);
        x.least(1, 0, 500);
        x.debt(1, 0, 7, 0, 0, 0);
        x.hold(1, 0);
        x.hold(2, 0);
        x.day();
        check.due("paid", x.compose(0, 500), 59);
        check.due("coins of the debtor", x.tell(0, 0), 1);
        check.due("coins of the first", x.tell(1, 0), 50);
        check.due("coins of the second, who did not sign", x.tell(2, 0), 9);
        check.due("forgiven", x.about(0, 7), 2);
        check.due("forgiven, too", x.about(1, 7), 2);
        check.due("no lack", x.about(0, 13), 0);
        check.due("ended", x.about(0, 14), 1);
        check.due("not its own claims", x.about(2, 7), 0);
        check.due("detained no more", x.tell(0, 10), 0);
        check.due("no surrender", x.tell(0, 13), 0);
        DebtorsHouse y = Check.persons(50, 0);
        y.debt(0, 1, 50, 0, 0, 0);
        check.due("with its last coin", y.compose(0, 1000), 50);
        check.due("paid whole", y.about(0, 7), 1);
        check.due("no coin is left", y.tell(0, 0), 0);
        DebtorsHouse z = Check.persons(9, 0, 50);
        Check.act(z, "buyer:no;", 0);
        z.debt(0, 1, 10, 0, 0, 0);
        z.debt(0, 1, 8, 0, 0, 0);
        z.buy(1, 2, 1);
        z.least(1, 0, 500);
        check.due("one that counts for nothing is composed, too", z.compose(0, 500), 9);
        check.due("its owner is paid", z.tell(2, 0), 53);
        check.due("it is forgiven", z.about(1, 7), 2);
    }

    private static void composeCut() {
        check.says("Term 4", "COMPOSED (the offer BINDS, and the debtor has the COINS): of each LIVE DEBT DUE * r / 1000, cut, "
            + "is paid, the rest forgiven (if there is none, it is paid).");
        DebtorsHouse x = Check.persons(200, 0);
        x.debt(0, 1, 100, 0, 0, 0);
        x.debt(0, 1, 1, 0, 0, 0);
        x.costs(0, 5);
        check.due("all", x.compose(0, 1000), 106);
        check.due("paid, not forgiven", x.about(0, 7) * 10 + x.about(1, 7), 11);
        x.debt(0, 1, 1, 0, 0, 0);
        x.debt(0, 1, 1, 0, 0, 0);
        x.least(1, 0, 999);
        check.due("each is cut to nothing", x.compose(0, 999), 0);
        check.due("forgiven", x.about(2, 7) * 10 + x.about(3, 7), 22);
        x.debt(0, 1, 1999, 0, 0, 0);
        x.least(1, 0, 0);
        check.due("1999 / 1000", x.compose(0, 1), 1);
        x.debt(0, 1, 100000, 0, 0, 0);
        check.due("for nothing", x.compose(0, 0), 0);
        check.due("forgiven whole", x.about(5, 7), 2);
        check.due("coins", x.tell(0, 0) * 1000 + x.tell(1, 0), 93107);
        DebtorsHouse y = Check.persons(1000000, 0);
        y.debt(0, 1, 100000, 0, 0, 0);
        for (int i = 0; i < 250; i++) {
            y.costs(0, 10000);
        }
        y.found(0, 1000000);
        y.found(0, 1000000);
        y.least(1, 0, 999);
        check.due("2600000 * 999 / 1000", y.compose(0, 999), 2597400);
        check.due("coins of the debtor", y.tell(0, 0), 402600);
        check.due("coins of the creditor", y.tell(1, 0), 2597400);
    }

    private static void composeRefused() {
        check.says("Promise 30", "NONE: the offer does not BIND, or it has not so many.");
        DebtorsHouse x = Check.persons(60, 0, 0);
        check.due("no voters", x.compose(0, 500), -1);
        x.debt(0, 1, 101, 0, 0, 0);
        x.debt(0, 2, 19, 0, 0, 0);
        x.least(1, 0, 500);
        x.hold(2, 0);
        check.due("r one below", x.compose(0, 499), -1);
        for (int r : new int[] {-1, 1001, LOW, HIGH}) {
            check.due("r " + r, x.compose(0, r), -1);
        }
        for (int nobody : new int[] {-1, 3, 12, LOW, HIGH}) {
            check.due("by " + nobody, x.compose(nobody, 500), -1);
        }
        check.due("62 of 60 coins", x.compose(0, 519), -1);
        check.due("120 of 60 coins", x.compose(0, 1000), -1);
        check.due("both are live", x.count(2), 2);
        check.due("coins as they were", x.tell(0, 0) * 100 + x.tell(1, 0) + x.tell(2, 0), 6000);
        check.due("detained as it was", x.tell(0, 10), 4);
        x.pay(1, 1);
        check.due("59 of 59 coins", x.compose(0, 500), 59);
        check.due("nothing is left to compose", x.compose(0, 500), -1);
        DebtorsHouse y = Check.persons(0, 0);
        y.debt(0, 1, 100, 0, 0, 0);
        y.least(1, 0, 0);
        check.due("one coin too few", y.compose(0, 10), -1);
        Check.act(y, "number:0;worth:0;", 0);
        for (int r : new int[] {-1, 1001, LOW, HIGH}) {
            check.due("r " + r + " where nobody need sign", y.compose(0, r), -1);
        }
        check.due("nothing to pay without coins", y.compose(0, 9), 0);
        DebtorsHouse z = Check.persons(500, 0);
        z.debt(0, 1, 50, 0, 0, 0);
        for (int r : new int[] {1001, 2000, HIGH}) {
            check.due("r " + r + ", with coins enough", z.compose(0, r), -1);
        }
        check.due("coins as they were", z.tell(0, 0), 500);
    }

    private static void composeOfMany() {
        check.says("Promise 30", "COMPOSED: how many COINS were paid.");
        DebtorsHouse x = Check.persons(1000000, 0, 0);
        for (int d = 0; d < 40; d++) {
            x.debt(d % 2, 1 - d % 2, 1003 + d, 0, 0, 0);
        }
        x.least(1, 0, 500);
        int want = 0;
        for (int d = 0; d < 40; d += 2) {
            want += (1003 + d) / 2;
        }
        check.due("of twenty", x.compose(0, 500), want);
        check.due("twenty are live", x.count(2), 20);
        check.due("the last of them is forgiven", x.about(38, 7), 2);
        check.due("the last of all is not", x.about(39, 7), 0);
        check.due("the creditor has the coins", x.tell(1, 0), want);
    }

    private static void buy() {
        check.says("Promise 31", "A buyer buys a LIVE DEBT for a price, 0 .. 100000: true;");
        check.says("Term 4", "A buyer, neither debtor nor creditor, buys a DEBT for a price in COINS;");
        DebtorsHouse x = Check.persons(100, 5, 30, 100040);
        x.debt(0, 1, 50, 0, 0, 0);
        x.debt(0, 1, 50, 0, 0, 0);
        check.due("for all its coins", x.buy(0, 2, 30), true);
        check.due("the buyer's coins", x.tell(2, 0), 0);
        check.due("the seller's coins", x.tell(1, 0), 35);
        check.due("the creditor", x.about(0, 1), 2);
        check.due("it was bought", x.about(0, 12), 1);
        check.due("what is due is as it was", x.about(0, 11), 50);
        check.due("the other was not bought", x.about(1, 12), 0);
        check.due("for nothing", x.buy(1, 3, 0), true);
        check.due("for 100000", x.buy(0, 3, 100000), true);
        check.due("coins of a seller that had bought it", x.tell(2, 0), 100000);
        check.due("back again", x.buy(0, 1, 1), true);
        check.due("bought for ever", x.about(0, 12), 1);
        x.pay(0, 50);
        check.due("paid to the last one", x.tell(1, 0), 84);
        x.hold(3, 0);
        x.buy(1, 1, 0);
        check.due("the seller detains no more", x.tell(0, 10), 0);
        check.due("nor does the buyer yet", x.hold(1, 0), true);
    }

    private static void buyRefused() {
        check.says("Promise 31", "false: it can't.");
        DebtorsHouse x = Check.persons(100, 5, 30, 200000);
        x.debt(0, 1, 50, 0, 0, 0);
        x.debt(0, 1, 50, 0, 0, 0);
        for (int debt : new int[] {-1, 2, 40, LOW, HIGH}) {
            check.due("no debt " + debt, x.buy(debt, 2, 1), false);
        }
        for (int nobody : new int[] {-1, 4, 12, LOW, HIGH}) {
            check.due("no buyer " + nobody, x.buy(0, nobody, 0), false);
        }
        check.due("the debtor", x.buy(0, 0, 1), false);
        check.due("the creditor", x.buy(0, 1, 1), false);
        for (int price : new int[] {-1, 100001, LOW, HIGH}) {
            check.due("price " + price, x.buy(0, 3, price), false);
        }
        check.due("one coin too few", x.buy(0, 2, 31), false);
        check.due("the creditor as it was", x.about(0, 1), 1);
        check.due("nothing was bought", x.about(0, 12), 0);
        check.due("coins as they were", x.tell(3, 0), 200000);
        x.pay(0, 50);
        check.due("it is paid", x.buy(0, 2, 0), false);
        x.costs(1, 50);
        x.surrender(0);
        check.due("it is released", x.buy(1, 2, 0), false);
        x.debt(0, 1, 50, 0, 0, 0);
        x.least(1, 0, 0);
        x.compose(0, 0);
        check.due("it is forgiven", x.buy(2, 2, 0), false);
    }

    private static void buyerHasItsOwnLeast() {
        check.says("Term 4", "it has the same LEAST as it has for that debtor anyway.");
        DebtorsHouse x = Check.persons(0, 0, 5);
        x.debt(0, 1, 50, 0, 0, 0);
        x.debt(0, 1, 50, 0, 0, 0);
        x.least(1, 0, 100);
        x.least(2, 0, 700);
        x.buy(0, 2, 1);
        check.due("that of the buyer for what it bought", x.offer(0), 700);
        x.least(2, 0, 40);
        x.buy(1, 2, 1);
        check.due("as it is now", x.offer(0), 40);
        check.due("the seller's is of no more account", x.binds(0, 99), true);
    }

    /** 401 in all: 100 of 1, LEAST 500; 200 of 2, LEAST 900; 101 of 3, LEAST 800; 4 is the friend. */
    private static DebtorsHouse threeSellers() {
        DebtorsHouse x = Check.persons(0, 0, 0, 0, 0);
        x.debt(0, 1, 100, 0, 0, 0);
        x.debt(0, 2, 200, 0, 0, 0);
        x.debt(0, 3, 101, 0, 0, 0);
        x.least(1, 0, 500);
        x.least(2, 0, 900);
        x.least(3, 0, 800);
        return x;
    }

    private static void swing() {
        check.says("Promise 32", "THE SWING of a friend for an offer r of a debtor, what 0: what it costs, 1: the set.");
        check.says("Term 4", "that, if the friend bought them and its LEAST were 0, the offer would BIND, that which costs least, "
            + "at DUE * LEAST of the creditor / 1000, cut, each;");
        DebtorsHouse x = threeSellers();
        check.due("it binds anyway: nothing", x.swing(0, 4, 900, 0), 0);
        check.due("it binds anyway: the empty set", x.swing(0, 4, 900, 1), 0);
        check.due("r 1000", x.swing(0, 4, 1000, 0), 0);
        // 301 of 401 must sign: the second and the third are just enough, the first two are not
        check.due("r 0", x.swing(0, 4, 0, 0), 180 + 80);
        check.due("r 0: the set", x.swing(0, 4, 0, 1), 6);
        check.due("300 with the first signing is too few", x.swing(0, 4, 500, 0), 180 + 80);
        check.due("the same set", x.swing(0, 4, 500, 1), 6);
        x.costs(1, 3);
        // 303 of 404 must sign
        check.due("the second is enough, with the first signing", x.swing(0, 4, 500, 0), 182);
        check.due("its set", x.swing(0, 4, 500, 1), 2);
        check.due("below its least the first two", x.swing(0, 4, 499, 0), 50 + 182);
        check.due("the set of these", x.swing(0, 4, 499, 1), 3);
        x.debt(0, 4, 396, 0, 0, 0);
        // 600 of 800 must sign, the friend has 396
        check.due("the friend signs with its own", x.swing(0, 4, 500, 0), 182);
        check.due("which are not in that row", x.swing(0, 4, 500, 1), 2);
        check.due("599 is too few", x.swing(0, 4, 0, 1), 3);
        x.least(4, 0, 1000);
        check.due("its LEAST is 0 then, whatever it is", x.swing(0, 4, 0, 1), 3);
        check.due("though not now", x.binds(0, 900), false);
        check.due("empty set: it signs, too", x.swing(0, 4, 900, 1), 0);
    }

    private static void swingRefused() {
        check.says("Promise 32", "NONE: there is none, there are no such two, they are one, or for others.");
        DebtorsHouse x = threeSellers();
        for (int nobody : new int[] {-1, 5, 12, LOW, HIGH}) {
            check.due("debtor " + nobody, x.swing(nobody, 4, 500, 0), -1);
            check.due("friend " + nobody, x.swing(0, nobody, 500, 0), -1);
        }
        check.due("they are one", x.swing(0, 0, 1000, 0), -1);
        check.due("r 0", x.swing(0, 4, 0, 0), 260);
        for (int r : new int[] {-1, 1001, LOW, HIGH}) {
            check.due("r " + r, x.swing(0, 4, r, 0), -1);
            check.due("r " + r + ": set", x.swing(0, 4, r, 1), -1);
        }
        for (int what : new int[] {-1, 2, LOW, HIGH}) {
            check.due("what " + what, x.swing(0, 4, 500, what), -1);
        }
        check.due("a debtor without debts", x.swing(4, 1, 500, 0), -1);
        check.due("no set of one without debts", x.swing(4, 1, 500, 1), -1);
    }

    private static void swingTies() {
        check.says("Term 4", "of several the least (bits by place in that row).");
        DebtorsHouse x = Check.persons(0, 0, 0, 0);
        Check.act(x, "number:50;worth:50;", 0);
        x.debt(0, 1, 100, 0, 0, 0);
        x.debt(0, 2, 100, 0, 0, 0);
        check.due("either costs 100", x.swing(0, 3, 0, 0), 100);
        check.due("the least set", x.swing(0, 3, 0, 1), 1);
        x.least(2, 0, 999);
        check.due("costs less", x.swing(0, 3, 0, 0), 99);
        check.due("the second", x.swing(0, 3, 0, 1), 2);
        DebtorsHouse y = Check.persons(0, 0, 0, 0, 0);
        Check.act(y, "number:0;worth:50;", 0);
        y.debt(0, 1, 25, 0, 0, 0);
        y.debt(0, 2, 25, 0, 0, 0);
        y.debt(0, 3, 50, 0, 0, 0);
        check.due("two for 50, or one for 50", y.swing(0, 4, 0, 0), 50);
        check.due("1 and 2 are less than 4", y.swing(0, 4, 0, 1), 3);
        for (int c = 1; c <= 3; c++) {
            y.least(c, 0, c == 2 ? 1 : 0);
        }
        Check.act(y, "number:0;worth:51;", 0);
        check.due("for nothing", y.swing(0, 4, 0, 0), 0);
        check.due("of those for nothing the empty set", y.swing(0, 4, 0, 1), 0);
        for (int c = 1; c <= 3; c++) {
            y.least(c, 0, 10);
        }
        check.due("cut to nothing, each", y.swing(0, 4, 9, 0), 0);
        check.due("first and third are enough", y.swing(0, 4, 9, 1), 5);
    }

    private static void swingCosts() {
        check.says("Term 4", "that, if the friend bought them and its LEAST were 0, the offer would BIND, that which costs least, "
            + "at DUE * LEAST of the creditor / 1000, cut, each;");
        DebtorsHouse x = Check.persons(0, 0, 0, 0);
        Check.act(x, "number:100;worth:100;", 0);
        x.debt(0, 1, 1999, 0, 0, 0);
        x.debt(0, 1, 1999, 0, 0, 0);
        x.debt(0, 2, 1000, 0, 0, 0);
        x.least(1, 0, 1);
        check.due("1 + 1 + 1000", x.swing(0, 3, 0, 0), 1002);
        x.least(2, 0, 0);
        check.due("who signs need not be bought", x.swing(0, 3, 0, 0), 2);
        check.due("the first two", x.swing(0, 3, 0, 1), 3);
        DebtorsHouse y = Check.persons(0, 0, 0);
        y.debt(0, 1, 100000, 0, 0, 0);
        for (int i = 0; i < 250; i++) {
            y.costs(0, 10000);
        }
        check.due("2600000 * 1000 / 1000", y.swing(0, 2, 0, 0), 2600000);
        y.least(1, 0, 999);
        check.due("2600000 * 999 / 1000", y.swing(0, 2, 998, 0), 2597400);
        check.due("no coins are asked for", y.tell(2, 0), 0);
    }

    private static void swingOfTen() {
        check.says("Term 4", "THE SWING of a friend for an offer r: of all sets of LIVE DEBTS of the debtor, owed to others than "
            + "the friend (at most the first 10 of these),");
        DebtorsHouse x = Check.persons(0, 0, 0, 0);
        Check.act(x, "number:0;worth:100;", 0);
        for (int i = 0; i < 10; i++) {
            x.debt(0, 1, 10, 0, 0, 0);
        }
        check.due("all ten", x.swing(0, 3, 999, 0), 100);
        check.due("the set of ten", x.swing(0, 3, 999, 1), 1023);
        x.debt(0, 1, 10, 0, 0, 0);
        check.due("the 11th can't be bought", x.swing(0, 3, 999, 0), -1);
        check.due("no set either", x.swing(0, 3, 999, 1), -1);
        check.due("r 1000", x.swing(0, 3, 1000, 0), 0);
        x.buy(0, 3, 0);
        check.due("now it is the 10th of those", x.swing(0, 3, 999, 0), 100);
        check.due("all ten of these", x.swing(0, 3, 999, 1), 1023);
        Check.act(x, "number:0;worth:91;", 0);
        check.due("101 of 110 must sign", x.swing(0, 3, 999, 1), 1023);
        Check.act(x, "number:0;worth:90;", 0);
        check.due("99 of 110 must sign: the first nine", x.swing(0, 3, 999, 1), 511);
        for (int d = 11; d < 40; d++) {
            x.debt(0, 1, 10, 0, 0, 0);
        }
        check.due("the first 10 of 39 are too few", x.swing(0, 3, 999, 0), -1);
        Check.act(x, "number:0;worth:27;", 0);
        check.due("the friend's one and ten of 40", x.swing(0, 3, 999, 1), 1023);
    }

    private static void swingOfOthersDebts() {
        check.says("Term 4", "THE SWING of a friend for an offer r: of all sets of LIVE DEBTS of the debtor, owed to others than "
            + "the friend (at most the first 10 of these),");
        DebtorsHouse y = Check.persons(10, 0, 0, 0);
        Check.act(y, "number:0;worth:100;", 0);
        y.debt(0, 1, 10, 0, 0, 0);
        y.debt(2, 1, 10, 0, 0, 0);
        y.debt(0, 1, 10, 0, 0, 0);
        y.debt(0, 3, 10, 0, 0, 0);
        y.debt(0, 2, 10, 0, 0, 0);
        y.debt(0, 1, 10, 0, 0, 0);
        y.pay(0, 10);
        y.least(2, 0, 0);
        check.due("without the paid one, that of another and its own", y.swing(0, 3, 0, 1), 5);
        check.due("two of these for 10 each", y.swing(0, 3, 0, 0), 20);
        check.due("of a friend who is a creditor", y.swing(0, 2, 0, 1), 7);
    }

    private static void swingByNumber() {
        check.says("Term 4", "that, if the friend bought them and its LEAST were 0, the offer would BIND, that which costs least, "
            + "at DUE * LEAST of the creditor / 1000, cut, each;");
        DebtorsHouse x = Check.persons(0, 0, 0, 0, 0);
        Check.act(x, "number:51;worth:0;", 0);
        x.debt(0, 1, 10, 0, 0, 0);
        x.debt(0, 1, 5, 0, 0, 0);
        x.debt(0, 2, 30, 0, 0, 0);
        // of two voters the friend would be one: too few
        check.due("it must be the only voter", x.swing(0, 4, 0, 1), 7);
        x.least(2, 0, 0);
        check.due("the friend for 5 is two of three", x.swing(0, 4, 0, 0), 5);
        check.due("the second", x.swing(0, 4, 0, 1), 2);
        Check.act(x, "number:67;worth:0;", 0);
        check.due("two of three are too few: the first out", x.swing(0, 4, 0, 1), 3);
        check.due("for 15", x.swing(0, 4, 0, 0), 15);
        x.debt(0, 4, 1, 0, 0, 0);
        check.due("the friend has a voice anyway", x.swing(0, 4, 0, 1), 3);
        DebtorsHouse y = Check.persons(0, 0, 0, 0, 0);
        Check.act(y, "number:100;worth:0;", 0);
        y.debt(0, 1, 7, 0, 0, 0);
        y.debt(0, 1, 7, 0, 0, 0);
        y.least(1, 0, 0);
        y.debt(0, 2, 3, 0, 0, 0);
        check.due("one who signs needs not go", y.swing(0, 4, 0, 1), 4);
    }

    private static void swingWithoutBuyers() {
        check.says("Term 4", "a DEBT that was bought counts for nothing if buyer tells 0.");
        DebtorsHouse x = Check.persons(0, 9, 0, 0);
        Check.act(x, "buyer:no;worth:50;number:no;", 0);
        x.debt(0, 1, 100, 0, 0, 0);
        x.debt(0, 2, 100, 0, 0, 0);
        x.debt(0, 2, 1, 0, 0, 0);
        x.least(1, 0, 0);
        check.due("what is bought falls out", x.swing(0, 3, 0, 0), 1);
        check.due("the third", x.swing(0, 3, 0, 1), 4);
        x.least(1, 0, 1);
        check.due("nobody would be left", x.swing(0, 3, 0, 0), -1);
        x.buy(2, 1, 1);
        x.least(1, 0, 0);
        check.due("what was bought has fallen out", x.swing(0, 3, 0, 0), 0);
        x.debt(0, 2, 1, 0, 0, 0);
        check.due("101 of others", x.swing(0, 3, 0, 1), 8);
        x.debt(0, 3, 1, 0, 0, 0);
        check.due("the friend's own counts, and it signs", x.swing(0, 3, 0, 1), 0);
        Check.act(x, "buyer:no;worth:0;number:67;", 0);
        check.due("by number, 2 must be out: both of its own", x.swing(0, 3, 0, 1), 10);
        check.due("for 101", x.swing(0, 3, 0, 0), 101);
        DebtorsHouse y = Check.persons(0, 0, 0, 0, 0);
        Check.act(y, "buyer:no;worth:75;number:no;", 0);
        for (int creditor : new int[] {2, 2, 4}) {
            y.debt(0, creditor, 100, 0, 0, 0);
        }
        y.buy(0, 1, 0);
        y.least(4, 0, 0);
        check.due("what was bought need not be bought once more", y.swing(0, 3, 0, 1), 2);
    }

    private static void swingDoesNothing() {
        check.says("Promise 32", "THE SWING of a friend for an offer r of a debtor, what 0: what it costs, 1: the set.");
        DebtorsHouse x = threeSellers();
        int offer = x.offer(0);
        x.swing(0, 4, 0, 0);
        x.swing(0, 4, 0, 1);
        check.due("who is the creditor", x.about(1, 1), 2);
        check.due("nothing was bought", x.about(1, 12) + x.about(2, 12), 0);
        check.due("no coins moved", x.count(9), 0);
        check.due("the offer as it was", x.offer(0), offer);
        x.debt(0, 4, 1, 0, 0, 0);
        check.due("the friend's LEAST as it was", x.offer(0), 900);
        x.least(1, 0, 1000);
        x.least(3, 0, 1000);
        check.due("1000 it is", x.offer(0), 1000);
    }
}
