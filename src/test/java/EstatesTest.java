/** Promises 33 to 36: estates, what is found, books, the purse. */
public final class EstatesTest {
    private static final Check check = new Check();

    public static void main(String[] args) {
        surrender();
        pennies();
        keep();
        found();
        foundPennies();
        opens();
        book();
        free();
        freeInOrder();
        freeTies();
        freeFirstEight();
        check.finish();
    }

    private static void surrender() {
        DebtorsHouse x = Check.persons(160, 0, 0, 0);
        check.due("33: no live debts", x.surrender(0), -1);
        check.due("33: none such", x.surrender(4), -1);
        check.due("33: below", x.surrender(-1), -1);
        x.debt(0, 1, 100, 2, 0, 0);
        x.debt(0, 2, 100, 1, 0, 0);
        x.debt(0, 3, 50, 1, 0, 0);
        x.debt(0, 1, 10, 3, 0, 0);
        x.debt(1, 0, 10, 0, 0, 0);
        x.hold(2, 0);
        x.day();
        check.due("33: parted", x.surrender(0), 160);
        check.due("33: rank 2 gets what is left", x.tell(1, 0), 10);
        check.due("33: rank 1 first", x.tell(2, 0), 100);
        check.due("33: rank 1, too", x.tell(3, 0), 50);
        check.due("33: paid", x.about(1, 7), 1);
        check.due("33: paid, no lack", x.about(1, 13), 0);
        check.due("33: released", x.about(0, 7), 3);
        check.due("33: lack", x.about(0, 13), 90);
        check.due("33: rank 3 gets nothing", x.about(3, 13), 10);
        check.due("33: rank 3 is released", x.about(3, 7), 3);
        check.due("33: ended", x.about(3, 14), 1);
        check.due("33: its own claims stay", x.about(4, 7), 0);
        check.due("33: surrendered", x.tell(0, 13), 1);
        check.due("33: nobody else", x.tell(1, 13), 0);
        check.due("33: detained no more", x.tell(0, 10), 0);
        check.due("33: not twice", x.surrender(0), -1);
        DebtorsHouse y = Check.persons(100, 0);
        y.debt(0, 1, 30, 0, 0, 0);
        y.costs(0, 4);
        check.due("33: more coins than all due", y.surrender(0), 34);
        check.due("33: it keeps them", y.tell(0, 0), 66);
        check.due("33: paid whole", y.about(0, 7), 1);
        check.due("33: surrendered all the same", y.tell(0, 13), 1);
        DebtorsHouse z = Check.persons(100, 0);
        for (int rank = 3; rank >= 0; rank--) {
            z.debt(0, 1, 30, rank, 0, 0);
        }
        check.due("33: every rank", z.surrender(0), 100);
        check.due("33: rank 3 lacks", z.about(0, 13), 20);
        check.due("33: rank 2 has all", z.about(1, 13), 0);
    }

    private static void pennies() {
        DebtorsHouse x = Check.persons(10, 0, 0, 0);
        x.debt(0, 1, 3, 0, 0, 0);
        x.debt(0, 2, 5, 0, 0, 0);
        x.debt(0, 3, 5, 0, 0, 0);
        // 30/13, 50/13, 50/13: 2 + 3 + 3, rests 4, 11, 11
        check.due("33: parted to the penny", x.surrender(0), 10);
        check.due("33: the small rest", x.tell(1, 0), 2);
        check.due("33: a penny more", x.tell(2, 0), 4);
        check.due("33: a penny more, too", x.tell(3, 0), 4);
        DebtorsHouse y = Check.persons(10, 0, 0, 0);
        y.debt(0, 1, 7, 0, 0, 0);
        y.debt(0, 2, 7, 0, 0, 0);
        y.debt(0, 3, 7, 0, 0, 0);
        y.surrender(0);
        check.due("33: of several the least debt", y.tell(1, 0), 4);
        check.due("33: not the second", y.tell(2, 0), 3);
        check.due("33: not the third", y.tell(3, 0), 3);
        DebtorsHouse z = Check.persons(0, 0, 0);
        z.debt(0, 1, 7, 0, 0, 0);
        z.debt(0, 2, 7, 1, 0, 0);
        check.due("33: nothing to part", z.surrender(0), 0);
        check.due("33: all lacks", z.about(0, 13) + z.about(1, 13), 14);
    }

    private static void keep() {
        DebtorsHouse x = Check.persons(99, 0);
        Check.act(x, "keep:10;", 0);
        x.debt(0, 1, 100, 0, 0, 0);
        check.due("33: all but what it keeps, cut", x.surrender(0), 90);
        check.due("33: kept", x.tell(0, 0), 9);
        check.due("33: lack", x.about(0, 13), 10);
        DebtorsHouse y = Check.persons(99, 0);
        Check.act(y, "keep:100;", 0);
        y.debt(0, 1, 100, 0, 0, 0);
        check.due("33: keeps all", y.surrender(0), 0);
        check.due("33: kept all", y.tell(0, 0), 99);
    }

    private static void found() {
        DebtorsHouse x = Check.persons(10, 0, 0);
        x.debt(0, 1, 100, 0, 0, 0);
        x.debt(0, 2, 40, 1, 0, 0);
        check.due("34: 0", x.found(0, 0), -1);
        check.due("34: above", x.found(0, 1000001), -1);
        check.due("34: below", x.found(0, -1), -1);
        check.due("34: none such", x.found(3, 1), -1);
        check.due("34: its own", x.found(0, 1), 0);
        check.due("34: coins", x.tell(0, 0), 11);
        x.surrender(0);
        check.due("34: parted by rank", x.found(0, 90), 90);
        check.due("34: to the first", x.tell(1, 0), 100);
        check.due("34: and the second", x.tell(2, 0), 1);
        check.due("34: no lack any more", x.about(0, 13), 0);
        check.due("34: released it stays", x.about(0, 7), 3);
        check.due("34: a lack", x.about(1, 13), 39);
        check.due("34: none its own", x.tell(0, 0), 0);
        check.due("34: what is over", x.found(0, 1000000), 39);
        check.due("34: is its own", x.tell(0, 0), 999961);
        check.due("34: no lacks", x.found(0, 5), 0);
        check.due("34: its own then", x.tell(0, 0), 999966);
        check.due("34: of another", x.found(1, 7), 0);
        check.due("34: coins of another", x.tell(1, 0), 107);
    }

    private static void foundPennies() {
        DebtorsHouse x = Check.persons(0, 0, 0, 0);
        x.debt(0, 1, 3, 0, 0, 0);
        x.debt(0, 2, 5, 0, 0, 0);
        x.debt(0, 3, 5, 0, 0, 0);
        x.surrender(0);
        check.due("34: alike", x.found(0, 10), 10);
        check.due("34: the small rest", x.tell(1, 0), 2);
        check.due("34: a penny more", x.tell(2, 0), 4);
        // lacks 1, 1, 1
        check.due("34: two pennies", x.found(0, 2), 2);
        check.due("34: to the least", x.about(0, 13) * 100 + x.about(1, 13) * 10 + x.about(2, 13), 1);
        x.debt(0, 1, 50, 0, 0, 0);
        check.due("34: new debts are not lacks", x.found(0, 3), 1);
        check.due("34: due is as it was", x.about(3, 11), 50);
    }

    private static void opens() {
        DebtorsHouse x = Check.persons(10, 0);
        Check.act(x, "keep:10;opens if sum=0:yes;opens:no;", 0);
        x.debt(0, 1, 100, 0, 0, 0);
        x.surrender(0);
        check.due("34: opens", x.found(0, 5), 5);
        x.debt(0, 1, 1, 0, 0, 0);
        check.due("34: does not open", x.found(0, 5), 0);
        check.due("34: its own", x.tell(0, 0), 6);
        check.due("34: lack stays", x.about(0, 13), 86);
    }

    private static void book() {
        DebtorsHouse x = Check.persons(0, 0);
        check.due("35: 0", x.book(0, 0), -1);
        check.due("35: above", x.book(0, 100001), -1);
        check.due("35: below", x.book(0, -100001), -1);
        check.due("35: none such", x.book(2, 5), -1);
        check.due("35: came in", x.book(0, 50), 0);
        check.due("35: went out", x.book(0, -80), 30);
        check.due("35: the most below", x.book(0, 100), 30);
        check.due("35: not below that", x.book(0, -90), 30);
        check.due("35: below that", x.book(0, -100000), 100020);
        check.due("35: of another", x.book(1, 100000), 0);
        check.due("26: told", x.tell(0, 14), 100020);
        check.due("35: no coins", x.tell(0, 0), 0);
        check.due("37: rows", x.count(11), 6);
        for (int i = 6; i < 60; i++) {
            check.due("35: row " + i, x.book(1, 1), 0);
        }
        check.due("35: 60 in all", x.book(0, 1), -1);
        check.due("35: 60 in all, of any", x.book(1, 1), -1);
        check.due("37: 60 rows", x.count(11), 60);
    }

    private static void free() {
        DebtorsHouse x = Check.persons(10, 20, 0, 0);
        check.due("36: nobody is held", x.free(1000000, 0), 0);
        check.due("36: the set", x.free(1000000, 1), 0);
        check.due("36: the purse", x.free(1000000, 2), 0);
        Check.act(x, "entry:7;", 0);
        x.debt(0, 3, 30, 0, 0, 0);
        x.debt(1, 3, 23, 0, 0, 0);
        x.debt(2, 3, 90, 0, 0, 0);
        x.hold(3, 0);
        x.hold(3, 1);
        x.hold(3, 2);
        check.due("36: purse below", x.free(-1, 0), -1);
        check.due("36: purse above", x.free(1000001, 0), -1);
        check.due("36: another what", x.free(5, 3), -1);
        check.due("36: what below", x.free(5, -1), -1);
        check.due("36: none", x.free(9, 0), 0);
        check.due("36: the set of none", x.free(9, 1), 0);
        check.due("36: the purse for none", x.free(9, 2), 0);
        check.due("36: one", x.free(10, 0), 1);
        check.due("36: who", x.free(10, 1), 2);
        check.due("36: by how much", x.free(36, 2), 10);
        check.due("36: two", x.free(37, 0), 2);
        check.due("36: who are they", x.free(37, 1), 3);
        check.due("36: fees, too", x.free(133, 2), 37);
        check.due("36: all", x.free(134, 1), 7);
        check.due("36: nothing is done", x.tell(0, 11) * 100 + x.tell(0, 5), 3007);
    }

    private static void freeInOrder() {
        DebtorsHouse x = Check.persons(0, 0, 0, 0);
        x.debt(0, 1, 50, 0, 0, 0);
        x.debt(1, 2, 40, 0, 0, 0);
        x.debt(2, 3, 60, 0, 0, 0);
        x.hold(1, 0);
        x.hold(2, 1);
        x.hold(3, 2);
        check.due("36: the first pays for the second", x.free(50, 0), 2);
        check.due("36: they", x.free(50, 1), 3);
        check.due("36: purse for these", x.free(50, 2), 50);
        check.due("36: and 20 for the third", x.free(70, 0), 3);
        check.due("36: in all", x.free(100, 2), 70);
        check.due("36: not for less", x.free(69, 0), 2);
        check.due("36: the cheapest one alone", x.free(49, 2), 40);
        x.debt(2, 0, 45, 0, 0, 0);
        // 2 owes 105: the second, third, first one need 40 + 65 + 5; the third, first, second 105 + 5 + 0
        check.due("36: a ring, begun where it is least", x.free(1000, 2), 110);
        check.due("36: not for a penny less", x.free(109, 0), 2);
    }

    private static void freeTies() {
        DebtorsHouse x = Check.persons(0, 0, 0, 0);
        x.debt(0, 3, 50, 0, 0, 0);
        x.debt(1, 3, 40, 0, 0, 0);
        x.debt(2, 3, 40, 0, 0, 0);
        x.hold(3, 0);
        x.hold(3, 1);
        x.hold(3, 2);
        check.due("36: least of the purse", x.free(60, 2), 40);
        check.due("36: then the least set", x.free(60, 1), 2);
        check.due("36: two for least", x.free(90, 1), 6);
        DebtorsHouse y = Check.persons(100, 0, 0);
        y.debt(0, 1, 50, 0, 0, 0);
        y.hold(1, 0);
        check.due("36: from its own coins", y.free(0, 1), 1);
    }

    private static void freeFirstEight() {
        DebtorsHouse x = Check.persons(0, 0, 0, 0, 0, 0, 0, 0, 0, 0, 0, 0);
        for (int i = 1; i < 11; i++) {
            x.debt(i, 11, i < 9 ? 10 : 1, 0, 0, 0);
            x.hold(11, i);
        }
        check.due("36: the first eight", x.free(1000000, 0), 8);
        check.due("36: bits by persons", x.free(1000000, 1), 0x1fe);
        check.due("36: their purse", x.free(1000000, 2), 80);
        check.due("36: not the others", x.free(5, 0), 0);
    }
}
