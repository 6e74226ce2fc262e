/** Promises 37 to 39: counts, images, again. */
public final class ImagesTest {
    private static final Check check = new Check();

    public static void main(String[] args) {
        count();
        image();
        allIsInAnImage();
        otherHouseInTheSamePlaces();
        placesAreNew();
        check.finish();
    }

    private static void count() {
        DebtorsHouse x = Check.persons(100, 7, 0);
        Check.act(x, "entry:5;", 0);
        x.debt(0, 1, 30, 0, 200, 0);
        x.debt(1, 0, 20, 0, 0, 0);
        x.debt(2, 0, 9, 0, 0, 0);
        x.hold(0, 2);
        x.hold(1, 0);
        x.book(0, 3);
        x.ring();
        x.pay(0, 30);
        x.leave(0);
        x.day();
        x.hour();
        x.hour();
        int[] want = {3, 3, 2, 1, 1, 2, 1, 2, 5, 102, 29, 1};
        for (int what = 0; what < want.length; what++) {
            check.due("37: count(" + what + ")", x.count(what), want[what]);
        }
        check.due("37: another what", x.count(12), -1);
        check.due("37: what below", x.count(-1), -1);
    }

    private static void image() {
        DebtorsHouse x = Check.persons(1);
        check.due("38: below", x.image(-1), false);
        check.due("38: above", x.image(3), false);
        check.due("39: none such", x.again(0), false);
        check.due("38: first", x.image(0), true);
        x.person(2, 0);
        check.due("38: last", x.image(2), true);
        x.person(3, 0);
        check.due("39: none such yet", x.again(1), false);
        check.due("39: above", x.again(3), false);
        check.due("39: below", x.again(-1), false);
        check.due("39: nothing was done", x.count(0), 3);
        check.due("39: the first", x.again(0), true);
        check.due("39: as it was", x.count(0), 1);
        check.due("39: the last", x.again(2), true);
        check.due("39: as it was then", x.count(0), 2);
        x.person(9, 0);
        check.due("39: twice", x.again(2), true);
        check.due("39: as it was, twice", x.count(0), 2);
        check.due("38: anew", x.image(0), true);
        x.person(9, 0);
        x.again(0);
        check.due("39: the new one", x.count(0), 2);
    }

    private static void allIsInAnImage() {
        DebtorsHouse x = Check.persons(100, 50, 0);
        Check.act(x, "walk:yes;entry:1;daily:2;", 0);
        x.debt(0, 1, 30, 0, 200, 0);
        x.debt(1, 0, 20, 1, 100, 0);
        x.debt(2, 1, 10, 1, 100, 0);
        x.hold(1, 0);
        x.ring();
        x.least(1, 0, 333);
        x.book(1, -5);
        Check.act(x, "keep:101;", 0);
        Check.feedText(x, 0, "entry:9;");
        x.walk(0, true);
        x.hour();
        x.image(1);
        long before = allOf(x);
        x.person(5, 5);
        x.net();
        x.costs(0, 7);
        x.walk(0, false);
        x.room(0, 3);
        x.day();
        x.day();
        x.tire(1, 0);
        x.leave(0);
        x.buy(0, 2, 0);
        x.surrender(1);
        x.found(1, 77);
        x.least(1, 0, 444);
        x.book(1, -50);
        x.act(0);
        Check.act(x, "held:no;", 0);
        x.ring();
        check.due("39: other than before", allOf(x) == before, false);
        x.again(1);
        check.due("39: all is as it was", allOf(x), before);
        check.due("39: the row at hand", x.row(0) * 10 + x.row(1), 1);
        check.due("39: the fault", x.fault(0), 2);
        check.due("39: its place", x.fault(1), 5);
        check.due("39: least", x.offer(0), 333);
        check.due("39: the tape", x.act(0), 1);
        check.due("39: as it was fed", x.tells(0, 1, 1), 9);
        x.again(1);
        check.due("39: the tape, once more", x.end(8), 8);
        check.due("39: acts", x.count(3), 1);
    }

    private static long allOf(DebtorsHouse x) {
        long all = 17;
        for (int what = 0; what <= 11; what++) {
            all = all * 31 + x.count(what);
        }
        for (int p = 0; p < 12; p++) {
            for (int what = 0; what <= 14; what++) {
                all = all * 31 + x.tell(p, what);
            }
            all = all * 31 + x.offer(p);
        }
        for (int d = 0; d < 40; d++) {
            for (int what = 0; what <= 14; what++) {
                all = all * 31 + x.about(d, what);
            }
            all = all * 31 + x.row(d);
        }
        return (all * 31 + x.fault(0)) * 31 + x.fault(1);
    }

    /** Two houses that differ in all that is told, one after the other in one object. */
    private static void otherHouseInTheSamePlaces() {
        DebtorsHouse x = new DebtorsHouse();
        x.image(0);
        build(x, 1);
        x.image(1);
        long one = allOf(x);
        x.again(0);
        build(x, 2);
        x.image(2);
        long other = allOf(x);
        x.again(1);
        check.due("39: the one house", allOf(x), one);
        goOn(x, 1);
        x.again(2);
        check.due("39: the other house", allOf(x), other);
        goOn(x, 2);
        x.again(0);
        check.due("39: the empty house", x.count(0) + x.count(1) + x.count(3) + x.count(4) + x.count(9), 0);
    }

    private static void build(DebtorsHouse x, int n) {
        for (int p = 0; p < 4; p++) {
            x.person(1000 * n + p, 3 * n + p % 2);
        }
        Check.act(x, n == 1 ? "walk if hour<3:1;entry:3;" : "walk if hour<2:1;entry:5;daily:1;keep:5;", 0);
        Check.days(x, 5 * n);
        x.debt(n - 1, n, 3600 * n, n, 100 * n, 2 * n);
        x.debt(n, n - 1, 50 + n, n + 1, 10 * n, n);
        x.debt(3, n, 5000 * n, 0, 100 * n, 0);
        x.hold(n, 3);
        x.hold(n, n - 1);
        x.room(3, n);
        x.pay(2, 100);
        Check.days(x, n);
        x.walk(3, true);
        Check.hours(x, 3 + 2 * n);
        x.book(n, -10 * n);
        x.book(n, 5 * n);
        x.ring();
        x.day();
        x.surrender(3);
        x.hold(n, n - 1);
        Check.feedText(x, 0, n == 1 ? "held:no;" : "entry:77;");
        x.least(n, n - 1, 100 * n);
    }

    private static void goOn(DebtorsHouse x, int n) {
        check.due("39: lacks can be parted", x.found(3, 10), 10);
        check.due("39: interest goes on", x.pay(0, 1) + 1, n == 1 ? 3600 + 5 : 7200 + 36);
        check.due("39: the book goes on", x.book(n, -20 * n), 25 * n);
        check.due("39: the tape", x.act(0), 1);
        check.due("39: what it tells", x.tells(0, n - 1, 1), n == 1 ? 0 : 77);
        check.due("39: least", x.offer(n - 1), 100 * n);
        check.due("39: not of the other", x.offer(2 - n), n == 1 ? 1000 : -1);
        check.due("39: lawful since", x.lawful(n - 1, 2 * n, 5 * n), true);
        check.due("39: not lawful before", x.lawful(n - 1, 2 * n - 1, 5 * n), false);
    }

    private static void placesAreNew() {
        DebtorsHouse x = Check.persons(100);
        x.image(0);
        x.person(0, 5);
        x.debt(1, 0, 50, 2, 100, 0);
        x.debt(0, 1, 5, 2, 100, 0);
        Check.act(x, "entry:3;", 0);
        x.hold(0, 1);
        x.least(0, 1, 5);
        x.book(1, -9);
        x.buy(0, 1, 0);
        x.day();
        x.surrender(1);
        x.again(0);
        x.person(1, 0);
        x.person(1, 0);
        x.debt(1, 0, 7, 0, 0, 0);
        int[] person = {1, 0, 0, -1, -1, 0, 0, 0, 0, 0, 0, 7, 0, 0, 0};
        for (int what = 0; what < person.length; what++) {
            check.due("39: a new person in an old place, " + what, x.tell(1, what), person[what]);
        }
        int[] debt = {1, 0, 7, 0, 0, 0, 0, 0, 7, 0, 0, 7, 0, 0, -1};
        for (int what = 0; what < debt.length; what++) {
            check.due("39: a new debt in an old place, " + what, x.about(0, what), debt[what]);
        }
        check.due("39: least is 1000", x.offer(1), 1000);
        check.due("39: no act", x.good(5, 5), -1);
    }
}
