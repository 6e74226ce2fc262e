/** Promises 27 to 32: leasts, offers that bind, composing, buying, the swing. */
public final class VotesTest {
    private static final Check check = new Check();

    public static void main(String[] args) {
        least();
        binds();
        bindsByAct();
        boughtDebts();
        offer();
        compose();
        composeCut();
        buy();
        swing();
        swingTies();
        swingOfTen();
        swingWithoutBuyers();
        check.finish();
    }

    private static void least() {
        DebtorsHouse x = Check.persons(0, 0);
        check.due("27: no creditor", x.least(2, 0, 5), false);
        check.due("27: no debtor", x.least(0, -1, 5), false);
        check.due("27: one for itself", x.least(0, 0, 5), false);
        check.due("27: above", x.least(1, 0, 1001), false);
        check.due("27: below", x.least(1, 0, -1), false);
        check.due("27: without a debt", x.least(1, 0, 0), true);
        check.due("27: the most", x.least(1, 0, 1000), true);
        x.debt(0, 1, 100, 0, 0, 0);
        check.due("27: as set", x.offer(0), 1000);
        x.least(0, 1, 3);
        check.due("27: not the other way", x.offer(0), 1000);
        x.least(1, 0, 400);
        check.due("27: from now on", x.offer(0), 400);
    }

    private static void binds() {
        DebtorsHouse x = Check.persons(0, 0, 0, 0, 0);
        check.due("28: no voters", x.binds(0, 1000), false);
        x.debt(0, 1, 300, 0, 0, 0);
        x.debt(0, 2, 100, 0, 0, 0);
        check.due("28: 1000 at first", x.binds(0, 1000), true);
        check.due("28: below it", x.binds(0, 999), false);
        x.least(1, 0, 500);
        check.due("28: half in number, 75 of 100 in worth", x.binds(0, 500), true);
        check.due("28: not below", x.binds(0, 499), false);
        x.costs(1, 1);
        check.due("28: a penny too few", x.binds(0, 500), false);
        x.costs(0, 3);
        check.due("28: worth again", x.binds(0, 500), true);
        x.debt(0, 3, 1, 0, 0, 0);
        check.due("28: one of three", x.binds(0, 500), false);
        x.debt(0, 1, 1000, 0, 0, 0);
        check.due("28: debts are not heads", x.binds(0, 500), false);
        x.least(3, 0, 200);
        check.due("28: two of three", x.binds(0, 500), true);
        check.due("28: r above", x.binds(0, 1001), false);
        check.due("28: r below", x.binds(0, -1), false);
        check.due("28: none such", x.binds(5, 500), false);
        check.due("28: below 0", x.binds(-1, 500), false);
        check.due("28: the creditor owes nothing", x.binds(1, 1000), false);
    }

    private static void bindsByAct() {
        DebtorsHouse x = Check.persons(0, 0, 0);
        x.debt(0, 1, 50, 0, 0, 0);
        x.debt(0, 2, 50, 0, 0, 0);
        x.least(1, 0, 300);
        check.due("28: half in worth alone", x.binds(0, 300), false);
        Check.act(x, "worth:50;", 0);
        check.due("28: worth 50", x.binds(0, 300), true);
        Check.act(x, "worth:50;number:51;", 0);
        check.due("28: number 51", x.binds(0, 300), false);
        Check.act(x, "worth:no;number:0;", 0);
        check.due("28: nobody signs", x.binds(0, 0), true);
        check.due("29: least of all", x.offer(0), 0);
        check.due("28: but there must be voters", x.binds(1, 0), false);
    }

    private static void boughtDebts() {
        DebtorsHouse x = Check.persons(0, 100, 100, 100);
        x.debt(0, 1, 10, 0, 0, 0);
        x.debt(0, 2, 10, 0, 0, 0);
        x.least(3, 0, 0);
        x.least(1, 0, 100);
        x.buy(1, 3, 1);
        check.due("T4: a bought debt counts", x.binds(0, 99), false);
        check.due("T4: with both", x.binds(0, 100), true);
        Check.act(x, "buyer:no;number:100;worth:100;", 0);
        check.due("T4: counts for nothing", x.binds(0, 99), false);
        check.due("T4: the other alone", x.offer(0), 100);
        x.least(3, 0, 1000);
        check.due("T4: its owner has no voice", x.offer(0), 100);
        x.buy(0, 3, 1);
        check.due("T4: no voters", x.offer(0), -1);
        check.due("T4: no voters bind nothing", x.binds(0, 1000), false);
    }

    private static void offer() {
        DebtorsHouse x = Check.persons(0, 0, 0, 0);
        check.due("29: no voters", x.offer(0), -1);
        check.due("29: none such", x.offer(4), -1);
        check.due("29: below", x.offer(-1), -1);
        x.debt(0, 1, 100, 0, 0, 0);
        x.debt(0, 2, 200, 0, 0, 0);
        x.debt(0, 3, 300, 0, 0, 0);
        x.least(1, 0, 100);
        x.least(2, 0, 300);
        x.least(3, 0, 200);
        check.due("29: 400 of 600 is too few", x.offer(0), 300);
        x.least(2, 0, 150);
        check.due("29: 300 of 600 is too few", x.offer(0), 200);
        Check.act(x, "worth:50;", 0);
        check.due("29: two of three, half in worth", x.offer(0), 150);
        x.least(1, 0, 1000);
        x.least(2, 0, 1000);
        check.due("29: the number is lacking", x.offer(0), 1000);
    }

    private static void compose() {
        DebtorsHouse x = Check.persons(60, 0, 0);
        check.due("30: no voters", x.compose(0, 500), -1);
        x.debt(0, 1, 101, 0, 0, 0);
        x.debt(0, 2, 19, 0, 0, 0);
        x.least(1, 0, 500);
        x.debt(1, 0, 7, 0, 0, 0);
        check.due("30: does not bind", x.compose(0, 499), -1);
        check.due("30: above", x.compose(0, 1001), -1);
        check.due("30: none such", x.compose(3, 500), -1);
        check.due("30: not so many coins", x.compose(0, 600), -1);
        check.due("30: nothing was done", x.count(2), 3);
        DebtorsHouse y = Check.persons(50, 0);
        y.debt(0, 1, 50, 0, 0, 0);
        y.least(1, 0, 0);
        check.due("30: below 0", y.compose(0, -1), -1);
        check.due("30: with its last coin", y.compose(0, 1000), 50);
        DebtorsHouse z = Check.persons(500, 0);
        z.debt(0, 1, 50, 0, 0, 0);
        check.due("30: above, with coins enough", z.compose(0, 1001), -1);
        x.hold(1, 0);
        x.day();
        check.due("30: paid", x.compose(0, 500), 59);
        check.due("30: coins of the debtor", x.tell(0, 0), 1);
        check.due("30: coins of the first", x.tell(1, 0), 50);
        check.due("30: coins of the second, who did not sign", x.tell(2, 0), 9);
        check.due("30: forgiven", x.about(0, 7), 2);
        check.due("30: forgiven, too", x.about(1, 7), 2);
        check.due("30: no lack", x.about(0, 13), 0);
        check.due("30: ended", x.about(0, 14), 1);
        check.due("30: not its own claims", x.about(2, 7), 0);
        check.due("30: detained no more", x.tell(0, 10), 0);
        check.due("30: nothing is left", x.compose(0, 500), -1);
    }

    private static void composeCut() {
        DebtorsHouse x = Check.persons(200, 0);
        x.debt(0, 1, 100, 0, 0, 0);
        x.debt(0, 1, 1, 0, 0, 0);
        x.costs(0, 5);
        check.due("30: all", x.compose(0, 1000), 106);
        check.due("30: paid, not forgiven", x.about(0, 7), 1);
        x.debt(0, 1, 1, 0, 0, 0);
        x.least(1, 0, 999);
        check.due("30: cut to nothing", x.compose(0, 999), 0);
        check.due("30: forgiven", x.about(2, 7), 2);
        x.debt(0, 1, 100000, 0, 0, 0);
        x.least(1, 0, 0);
        check.due("30: for nothing", x.compose(0, 0), 0);
        check.due("30: forgiven whole", x.about(3, 7), 2);
    }

    private static void buy() {
        DebtorsHouse x = Check.persons(100, 5, 30, 40);
        x.debt(0, 1, 50, 0, 0, 0);
        x.debt(0, 1, 50, 0, 0, 0);
        check.due("31: no debt", x.buy(2, 2, 1), false);
        check.due("31: below", x.buy(-1, 2, 1), false);
        check.due("31: no buyer", x.buy(0, 4, 1), false);
        check.due("31: the debtor", x.buy(0, 0, 1), false);
        check.due("31: the creditor", x.buy(0, 1, 1), false);
        check.due("31: price below", x.buy(0, 2, -1), false);
        check.due("31: price above", x.buy(0, 2, 100001), false);
        check.due("31: not so many coins", x.buy(0, 2, 31), false);
        check.due("31: bought", x.buy(0, 2, 30), true);
        check.due("31: buyer's coins", x.tell(2, 0), 0);
        check.due("31: seller's coins", x.tell(1, 0), 35);
        check.due("31: creditor", x.about(0, 1), 2);
        check.due("31: was bought", x.about(0, 12), 1);
        check.due("31: the other was not", x.about(1, 12), 0);
        check.due("31: for nothing", x.buy(1, 3, 0), true);
        check.due("31: back again", x.buy(0, 1, 1), true);
        check.due("31: bought for ever", x.about(0, 12), 1);
        x.pay(0, 50);
        check.due("31: paid to the last one", x.tell(1, 0), 84);
        check.due("31: not live", x.buy(0, 2, 0), false);
        x.hold(3, 0);
        x.buy(1, 1, 0);
        check.due("31: the seller detains no more", x.tell(0, 10), 0);
    }

    private static void swing() {
        DebtorsHouse x = Check.persons(0, 0, 0, 0, 0);
        check.due("32: no voters", x.swing(0, 4, 500, 0), -1);
        x.debt(0, 1, 100, 0, 0, 0);
        x.debt(0, 2, 200, 0, 0, 0);
        x.debt(0, 3, 101, 0, 0, 0);
        x.least(1, 0, 500);
        x.least(2, 0, 900);
        x.least(3, 0, 800);
        check.due("32: no such debtor", x.swing(5, 4, 500, 0), -1);
        check.due("32: no such friend", x.swing(0, -1, 500, 0), -1);
        check.due("32: they are one", x.swing(0, 0, 500, 0), -1);
        check.due("32: r above", x.swing(0, 4, 1001, 0), -1);
        check.due("32: r below", x.swing(0, 4, -1, 0), -1);
        check.due("32: another what", x.swing(0, 4, 500, 2), -1);
        check.due("32: what below", x.swing(0, 4, 500, -1), -1);
        check.due("32: nothing is to be bought", x.swing(0, 4, 900, 0), 0);
        check.due("32: the empty set", x.swing(0, 4, 900, 1), 0);
        // 401 in all, 301 must sign: the second and the third are just enough, the first two are not
        check.due("32: the last two, cut each", x.swing(0, 4, 0, 0), 180 + 80);
        check.due("32: their set", x.swing(0, 4, 0, 1), 6);
        check.due("32: 300 with the first signing is too few", x.swing(0, 4, 500, 0), 180 + 80);
        check.due("32: the same set", x.swing(0, 4, 500, 1), 6);
        x.costs(1, 3);
        // 404 in all, 303 must sign
        check.due("32: the second is enough, with the first signing", x.swing(0, 4, 500, 0), 182);
        check.due("32: its set", x.swing(0, 4, 500, 1), 2);
        check.due("32: the first two", x.swing(0, 4, 0, 0), 50 + 182);
        check.due("32: the set of these", x.swing(0, 4, 0, 1), 3);
        check.due("32: nothing was done", x.about(1, 1), 2);
        x.debt(0, 4, 396, 0, 0, 0);
        // 800 in all, 600 must sign, the friend has 396
        check.due("32: the friend signs with its own", x.swing(0, 4, 500, 0), 182);
        check.due("32: which are not in that row", x.swing(0, 4, 500, 1), 2);
        check.due("32: 599 is too few", x.swing(0, 4, 0, 1), 3);
    }

    private static void swingTies() {
        DebtorsHouse x = Check.persons(0, 0, 0, 0);
        Check.act(x, "number:50;worth:50;", 0);
        x.debt(0, 1, 100, 0, 0, 0);
        x.debt(0, 2, 100, 0, 0, 0);
        check.due("32: costs alike", x.swing(0, 3, 0, 0), 100);
        check.due("32: the least set", x.swing(0, 3, 0, 1), 1);
        x.least(2, 0, 999);
        check.due("32: costs less", x.swing(0, 3, 0, 0), 99);
        check.due("32: the second", x.swing(0, 3, 0, 1), 2);
    }

    private static void swingOfTen() {
        DebtorsHouse x = Check.persons(0, 0, 0, 0);
        Check.act(x, "number:0;worth:100;", 0);
        for (int i = 0; i < 11; i++) {
            x.debt(0, 1, 10, 0, 0, 0);
        }
        check.due("32: the 11th can't be bought", x.swing(0, 3, 999, 0), -1);
        check.due("32: r 1000", x.swing(0, 3, 1000, 0), 0);
        x.buy(0, 3, 0);
        check.due("32: now it is the 10th of those", x.swing(0, 3, 999, 0), 100);
        check.due("32: all ten", x.swing(0, 3, 999, 1), 1023);
        DebtorsHouse y = Check.persons(0, 0, 0, 0);
        Check.act(y, "number:0;worth:100;", 0);
        y.debt(0, 1, 10, 0, 0, 0);
        y.debt(0, 2, 10, 0, 0, 0);
        y.debt(0, 1, 10, 0, 0, 0);
        y.pay(0, 10);
        y.debt(2, 1, 10, 0, 0, 0);
        y.least(2, 0, 0);
        check.due("32: bits by place in that row", y.swing(0, 3, 0, 1), 5);
    }

    private static void swingWithoutBuyers() {
        DebtorsHouse x = Check.persons(0, 0, 0, 0);
        Check.act(x, "buyer:no;worth:50;number:no;", 0);
        x.debt(0, 1, 100, 0, 0, 0);
        x.debt(0, 2, 100, 0, 0, 0);
        x.debt(0, 2, 1, 0, 0, 0);
        x.least(1, 0, 0);
        check.due("32: what is bought falls out", x.swing(0, 3, 0, 0), 1);
        check.due("32: the third", x.swing(0, 3, 0, 1), 4);
        x.least(1, 0, 1);
        check.due("32: nobody would be left", x.swing(0, 3, 0, 0), -1);
    }
}
