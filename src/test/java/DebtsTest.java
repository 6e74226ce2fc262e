/** Promises 1 to 9: a new object, persons, debts, rings. */
public final class DebtsTest {
    private static final Check check = new Check();

    public static void main(String[] args) {
        newObject();
        person();
        debt();
        debtOfForty();
        costs();
        pay();
        interest();
        about();
        ring();
        leastRing();
        longestRing();
        net();
        check.finish();
    }

    private static void newObject() {
        DebtorsHouse x = new DebtorsHouse();
        for (int what = 0; what <= 11; what++) {
            check.due("1: count(" + what + ") of a new object", x.count(what), 0);
        }
        check.due("1: no images", x.again(0) || x.again(1) || x.again(2), false);
        check.due("1: fault(0)", x.fault(0), 0);
        check.due("1: fault(1)", x.fault(1), -1);
        check.due("1: good(0, 0)", x.good(0, 0), -1);
        check.due("1: NONE", DebtorsHouse.NONE, -1);
    }

    private static void person() {
        DebtorsHouse x = new DebtorsHouse();
        check.due("2: coins below 0", x.person(-1, 0), -1);
        check.due("2: coins above", x.person(1000001, 0), -1);
        check.due("2: children below 0", x.person(0, -1), -1);
        check.due("2: children above", x.person(0, 10), -1);
        check.due("2: first", x.person(0, 9), 0);
        check.due("2: second", x.person(1000000, 0), 1);
        check.due("2: coins", x.tell(1, 0), 1000000);
        check.due("2: children", x.tell(0, 1), 9);
        for (int i = 2; i < 12; i++) {
            check.due("2: person " + i, x.person(i, 1), i);
        }
        check.due("2: a 13th", x.person(1, 1), -1);
        check.due("2: count", x.count(0), 12);
    }

    private static void debt() {
        DebtorsHouse x = Check.persons(10, 20);
        check.due("3: no debtor", x.debt(2, 0, 5, 0, 0, 0), -1);
        check.due("3: no creditor", x.debt(0, -1, 5, 0, 0, 0), -1);
        check.due("3: they are one", x.debt(1, 1, 5, 0, 0, 0), -1);
        check.due("3: sum 0", x.debt(0, 1, 0, 0, 0, 0), -1);
        check.due("3: sum above", x.debt(0, 1, 100001, 0, 0, 0), -1);
        check.due("3: rank below", x.debt(0, 1, 5, -1, 0, 0), -1);
        check.due("3: rank above", x.debt(0, 1, 5, 4, 0, 0), -1);
        check.due("3: rate below", x.debt(0, 1, 5, 0, -1, 0), -1);
        check.due("3: rate above", x.debt(0, 1, 5, 0, 201, 0), -1);
        check.due("3: since tomorrow", x.debt(0, 1, 5, 0, 0, 1), -1);
        check.due("3: since below", x.debt(0, 1, 5, 0, 0, -1), -1);
        check.due("3: none came", x.count(1), 0);
        check.due("3: edges below", x.debt(0, 1, 1, 0, 0, 0), 0);
        check.due("3: edges above", x.debt(1, 0, 100000, 3, 200, 0), 1);
        x.day();
        check.due("3: since now", x.debt(1, 0, 7, 1, 2, 1), 2);
        check.due("3: since earlier", x.debt(1, 0, 7, 1, 2, 0), 3);
        check.due("3: told now", x.about(3, 6), 1);
    }

    private static void debtOfForty() {
        DebtorsHouse x = Check.persons(0, 0);
        for (int i = 0; i < 40; i++) {
            check.due("3: debt " + i, x.debt(0, 1, 1, 0, 0, 0), i);
        }
        check.due("3: a 41st", x.debt(0, 1, 1, 0, 0, 0), -1);
        check.due("3: count", x.count(1), 40);
    }

    private static void costs() {
        DebtorsHouse x = Check.persons(1000, 0);
        x.debt(0, 1, 100, 0, 0, 0);
        check.due("4: no such debt", x.costs(1, 5), -1);
        check.due("4: below 0", x.costs(-1, 5), -1);
        check.due("4: 0 coins", x.costs(0, 0), -1);
        check.due("4: above", x.costs(0, 10001), -1);
        check.due("4: least", x.costs(0, 1), 101);
        check.due("4: most", x.costs(0, 10000), 10101);
        check.due("4: told", x.about(0, 10), 10001);
        check.due("4: no coins move", x.tell(0, 0) + x.tell(1, 0), 1000);
        DebtorsHouse y = Check.persons(1000, 0);
        y.debt(0, 1, 100, 0, 0, 0);
        y.pay(0, 100);
        check.due("4: not live", y.costs(0, 5), -1);
    }

    private static void pay() {
        DebtorsHouse x = Check.persons(120, 3);
        x.debt(0, 1, 100, 0, 0, 0);
        x.costs(0, 30);
        check.due("5: 0 coins", x.pay(0, 0), -1);
        check.due("5: below 0", x.pay(0, -5), -1);
        check.due("5: none such", x.pay(1, 5), -1);
        check.due("5: not so many coins", x.pay(0, 121), -1);
        check.due("5: costs first", x.pay(0, 10), 120);
        check.due("5: costs left", x.about(0, 10), 20);
        check.due("5: principal whole", x.about(0, 8), 100);
        check.due("5: costs and principal", x.pay(0, 25), 95);
        check.due("5: costs gone", x.about(0, 10), 0);
        check.due("5: principal left", x.about(0, 8), 95);
        check.due("5: debtor's coins", x.tell(0, 0), 85);
        check.due("5: creditor's coins", x.tell(1, 0), 38);
        x.debt(1, 0, 20, 0, 0, 0);
        check.due("5: more than is due", x.pay(1, 21), -1);
        check.due("5: all", x.pay(1, 20), 0);
        check.due("5: paid", x.about(1, 7), 1);
        check.due("5: ended", x.about(1, 14), 0);
        check.due("5: not live", x.pay(1, 1), -1);
        DebtorsHouse y = Check.persons(40, 0);
        y.debt(0, 1, 50, 0, 0, 0);
        check.due("5: one more than it has", y.pay(0, 41), -1);
        check.due("5: all that it has", y.pay(0, 40), 10);
    }

    private static void interest() {
        DebtorsHouse x = Check.persons(100000, 0);
        x.debt(0, 1, 1000, 0, 200, 0);
        x.debt(0, 1, 999, 0, 7, 0);
        Check.days(x, 10);
        check.due("T1: 1000 * 200 * 10 / 360000", x.about(0, 9), 5);
        check.due("T1: 999 * 7 * 10 / 360000", x.about(1, 9), 0);
        check.due("T1: due", x.about(0, 11), 1005);
        check.due("T1: costs don't reckon", x.costs(0, 1), 1006);
        check.due("T1: pay reckons", x.pay(0, 3), 1003);
        check.due("T1: interest left", x.about(0, 9), 3);
        x.day();
        check.due("T1: less than one since", x.about(0, 9), 3);
        x.day();
        check.due("T1: 1000 * 200 * 2 / 360000 is 1", x.about(0, 9), 4);
        check.due("T1: interest ahead of principal", x.pay(0, 14), 990);
        check.due("T1: principal", x.about(0, 8), 990);
        check.due("T1: no interest", x.about(0, 9), 0);
        x.day();
        x.day();
        check.due("T1: 990 * 200 * 2 / 360000 is 1", x.about(0, 9), 1);
        int late = x.debt(0, 1, 100000, 1, 200, 2);
        check.due("T1: since its day, 100000 * 200 * 12 / 360000", x.about(late, 9), 666);
        DebtorsHouse y = Check.persons(0, 0);
        y.debt(0, 1, 1800, 0, 100, 0);
        y.day();
        y.costs(0, 5);
        y.day();
        check.due("T1: halves are not cut by costs", y.about(0, 9), 1);
        y.debt(1, 0, 1, 0, 0, 0);
        y.net();
        y.day();
        check.due("T1: reckoned as something is taken off", y.about(0, 9), 1);
    }

    private static void about() {
        DebtorsHouse x = Check.persons(50, 60);
        x.day();
        x.debt(1, 0, 77, 2, 9, 0);
        int[] want = {1, 0, 77, 2, 9, 0, 1, 0, 77, 0, 0, 77, 0, 0, -1};
        for (int what = 0; what < want.length; what++) {
            check.due("6: about(0, " + what + ")", x.about(0, what), want[what]);
        }
        check.due("6: another what", x.about(0, 15), -100);
        check.due("6: what below", x.about(0, -1), -100);
        check.due("6: none such", x.about(1, 0), -100);
        check.due("6: below 0", x.about(-1, 8), -100);
        x.costs(0, 3);
        x.surrender(1);
        int[] then = {1, 0, 77, 2, 9, 0, 1, 3, 0, 0, 0, 0, 0, 20, 1};
        for (int what = 0; what < then.length; what++) {
            check.due("6: about(0, " + what + ") released", x.about(0, what), then[what]);
        }
    }

    private static void ring() {
        DebtorsHouse x = Check.persons(0, 0, 0, 0);
        check.due("7: none", x.ring(), -1);
        x.debt(2, 0, 5, 0, 0, 0);
        x.debt(1, 2, 7, 0, 0, 0);
        check.due("7: no ring yet", x.ring(), -1);
        x.debt(0, 1, 9, 0, 0, 0);
        check.due("7: three", x.ring(), 3);
        check.due("8: first", x.row(0), 0);
        check.due("8: owed by him to whom the first is owed", x.row(1), 2);
        check.due("8: last", x.row(2), 1);
        check.due("8: behind it", x.row(3), -1);
        check.due("8: below 0", x.row(-1), -1);
        check.due("8: far", x.row(12), -1);
        check.due("37: in the row", x.count(7), 3);
        x.debt(3, 2, 1, 0, 0, 0);
        x.debt(2, 3, 1, 0, 0, 0);
        check.due("7: the fewest", x.ring(), 2);
        check.due("8: least first", x.row(0), 3);
        check.due("8: then the other", x.row(1), 4);
        x.net();
        x.net();
        check.due("7: none any more", x.ring(), -1);
        check.due("7: at hand is none then", x.row(0), -1);
        check.due("7: count", x.count(7), 0);
    }

    private static void leastRing() {
        DebtorsHouse x = Check.persons(0, 0, 0, 0, 0);
        x.debt(4, 3, 5, 0, 0, 0);
        x.debt(1, 2, 5, 0, 0, 0);
        x.debt(0, 1, 5, 0, 0, 0);
        x.debt(1, 2, 5, 0, 0, 0);
        x.debt(2, 0, 5, 0, 0, 0);
        x.debt(2, 0, 5, 0, 0, 0);
        check.due("7: of several", x.ring(), 3);
        check.due("8: least row 0", x.row(0), 1);
        check.due("8: least row 1", x.row(1), 4);
        check.due("8: least row 2", x.row(2), 2);
    }

    private static void longestRing() {
        DebtorsHouse x = Check.persons(0, 0, 0, 0, 0, 0, 0, 0, 0, 0, 0, 0);
        for (int i = 0; i < 12; i++) {
            check.due("7: not closed yet", x.ring(), -1);
            x.debt((i * 5 + 5) % 12, i * 5 % 12, 5 + i, 0, 0, 0);
        }
        check.due("7: of all persons", x.ring(), 12);
        check.due("8: the first", x.row(0), 0);
        for (int k = 1; k < 12; k++) {
            check.due("8: backwards", x.row(k), 12 - k);
        }
        check.due("9: the least due", x.net(), 5);
        check.due("9: broken", x.ring(), -1);
    }

    private static void net() {
        DebtorsHouse x = Check.persons(10, 20, 30);
        check.due("9: none", x.net(), -1);
        x.debt(0, 1, 50, 0, 0, 0);
        x.debt(1, 2, 40, 0, 0, 0);
        x.debt(2, 0, 30, 0, 0, 0);
        x.costs(2, 15);
        x.costs(0, 7);
        x.hold(1, 0);
        x.hold(2, 1);
        check.due("9: by how much", x.net(), 40);
        check.due("9: at hand, too", x.count(7), 3);
        check.due("9: row", x.row(2), 2);
        check.due("9: rest of the first", x.about(0, 11), 17);
        check.due("9: costs first", x.about(0, 10), 0);
        check.due("9: paid", x.about(1, 7), 1);
        check.due("9: rest of the last", x.about(2, 11), 5);
        check.due("9: principal of the last", x.about(2, 8), 5);
        check.due("9: no coins move", x.tell(0, 0) * 10000 + x.tell(1, 0) * 100 + x.tell(2, 0), 102030);
        check.due("9: still detained", x.tell(0, 10), 2);
        check.due("9: detained no more", x.tell(1, 10), 0);
        check.due("9: but held", x.tell(1, 2), 1);
        check.due("9: none any more", x.net(), -1);
        check.due("9: at hand is none then", x.row(0), -1);
        check.due("9: nor is there a row", x.count(7), 0);
    }
}
