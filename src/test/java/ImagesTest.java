/** Promises 37 to 39, sentence by sentence, and a house up to its 512th call. */
public final class ImagesTest {
    private static final Check check = new Check();
    private static final int LOW = Check.LOW;
    private static final int HIGH = Check.HIGH;

    public static void main(String[] args) {
        count();
        countRefused();
        countOfGreatNumbers();
        image();
        imageRefused();
        again();
        againRefused();
        allIsInAnImage();
        tapeFaultAndRow();
        fullTape();
        eachDeed();
        fourActs();
        partedAgain();
        otherHouseInTheSamePlaces();
        placesAreNew();
        upToTheLastCall();
        check.finish();
    }

    private static void count() {
        check.says("Promise 37", "How many: 0 PERSONS, 1 DEBTS, 2 LIVE ones, 3 ACTS, 4 the DAY, 5 the HOUR, 6 HELD, "
            + "7 DEBTS in the row at hand, 8 FEES that were paid in all, 9 COINS of all PERSONS, 10 what is DUE of all, "
            + "11 rows of BOOKS.");
        DebtorsHouse x = Check.persons(100, 7, 0);
        Check.act(x, "entry:5;", 0);
        x.debt(0, 1, 30, 0, 200, 0);
        x.debt(1, 0, 20, 0, 0, 0);
        x.debt(2, 0, 9, 0, 0, 0);
        x.hold(0, 2);
        x.hold(1, 0);
        x.book(0, 3);
        x.ring();
        x.pay(0, 30);
        x.leave(0);
        x.day();
        x.hour();
        x.hour();
        int[] want = {3, 3, 2, 1, 1, 2, 1, 2, 5, 102, 29, 1};
        for (int what = 0; what < want.length; what++) {
            check.due("count(" + what + ")", x.count(what), want[what]);
        }
        x.hold(1, 0);
        x.alms(5);
        x.tire(0, 2);
        x.alms(2);
        x.leave(2);
        check.due("fees, in all", x.count(8), 10);
        check.due("coins, with alms and without fees", x.count(9), 104);
        x.surrender(1);
        check.due("live ones", x.count(2), 1);
        check.due("due of all", x.count(10), 9);
        check.due("debts", x.count(1), 3);
        check.due("nobody is held", x.count(6), 0);
    }

    private static void countRefused() {
        check.says("Promise 37", "NONE for another what.");
        DebtorsHouse x = Check.persons(1);
        for (int what : new int[] {-1, 12, 13, LOW, HIGH}) {
            check.due("count(" + what + ")", x.count(what), -1);
        }
    }

    private static void countOfGreatNumbers() {
        check.says("Promise 37", "How many: 0 PERSONS, 1 DEBTS, 2 LIVE ones, 3 ACTS, 4 the DAY, 5 the HOUR, 6 HELD, "
            + "7 DEBTS in the row at hand, 8 FEES that were paid in all, 9 COINS of all PERSONS, 10 what is DUE of all, "
            + "11 rows of BOOKS.");
        DebtorsHouse x = new DebtorsHouse();
        for (int p = 0; p < 12; p++) {
            x.person(1000000, 0);
        }
        for (int d = 0; d < 40; d++) {
            x.debt(11, d % 11, 100000, 0, 200, 0);
        }
        for (int i = 0; i < 100; i++) {
            x.found(i % 12, 1000000);
        }
        Check.days(x, 36);
        check.due("coins", x.count(9), 112000000);
        check.due("due", x.count(10), 4080000);
        check.due("due of one", x.tell(11, 11), 4080000);
        for (int c = 0; c < 11; c++) {
            x.hold(c, 11);
        }
        check.due("all but itself detain it", x.tell(11, 10), 2047);
        check.due("freed for what is due but for its coins", x.free(1000000, 0), 1);
    }

    private static void image() {
        check.says("Promise 38", "Image k (0 .. 2) is all that is told (tape, FAULT, the row at hand, too), as it is now: true;");
        DebtorsHouse x = Check.persons(1);
        for (int k = 0; k <= 2; k++) {
            check.due("image(" + k + ")", x.image(k), true);
            x.person(2 + k, 0);
        }
        for (int k = 2; k >= 0; k--) {
            check.due("again(" + k + ")", x.again(k), true);
            check.due("persons of " + k, x.count(0), 1 + k);
        }
        x.again(2);
        check.due("another one in its place", x.image(0), true);
        x.again(1);
        x.again(0);
        check.due("as it was then", x.count(0), 3);
    }

    private static void imageRefused() {
        check.says("Promise 38", "false for another k.");
        DebtorsHouse x = Check.persons(1);
        for (int k : new int[] {-1, 3, 4, LOW, HIGH}) {
            check.due("image(" + k + ")", x.image(k), false);
        }
        for (int k = 0; k <= 2; k++) {
            check.due("none came: again(" + k + ")", x.again(k), false);
        }
    }

    private static void again() {
        check.says("Promise 39", "All that is as image k has it: true;");
        DebtorsHouse x = Check.persons(1);
        x.image(1);
        x.person(2, 0);
        check.due("again", x.again(1), true);
        check.due("as it was", x.count(0), 1);
        x.person(3, 0);
        x.day();
        check.due("twice", x.again(1), true);
        check.due("as it was, twice", x.count(0) * 10 + x.count(4), 10);
        x.found(0, 5);
        x.image(2);
        x.again(1);
        check.due("images are not undone", x.again(2), true);
        check.due("the later one", x.tell(0, 0), 6);
        x.image(1);
        x.found(0, 5);
        x.again(1);
        check.due("an image anew", x.tell(0, 0), 6);
    }

    private static void againRefused() {
        check.says("Promise 39", "false if there is none such.");
        DebtorsHouse x = Check.persons(1);
        for (int k : new int[] {-1, 0, 1, 2, 3, LOW, HIGH}) {
            check.due("again(" + k + ")", x.again(k), false);
        }
        x.image(1);
        x.person(2, 0);
        for (int k : new int[] {-1, 0, 2, 3, LOW, HIGH}) {
            check.due("again(" + k + ") where there is 1", x.again(k), false);
        }
        check.due("nothing was done", x.count(0), 2);
        x.again(1);
        check.due("an image has no images", x.again(0), false);
    }

    private static void allIsInAnImage() {
        check.says("Promise 39", "All that is as image k has it: true;");
        DebtorsHouse x = houseWithAll();
        x.image(1);
        x.person(5, 5);
        x.net();
        x.costs(0, 7);
        x.walk(0, false);
        x.room(0, 3);
        Check.days(x, 2);
        x.tire(1, 0);
        x.leave(0);
        x.buy(0, 2, 0);
        x.surrender(1);
        x.found(1, 77);
        x.least(1, 0, 444);
        x.book(1, -50);
        x.act(0);
        Check.act(x, "held:no;", 0);
        x.ring();
        x.again(1);
        String[] goOn = {"end 8", "act 0", "tells 0 1 1", "day", "day", "book 1 -50", "about 0 9", "pay 0 2", "hold 1 2", "turn",
            "surrender 1", "found 1 77", "again 0", "again 1", "count 3", "tell 0 6", "end 9"};
        DebtorsHouse twin = houseWithAll();
        twin.image(1);
        check.same("all is as it was", Seen.of(x), Seen.of(twin));
        check.same("and goes on as it would", Seen.of(x, goOn), Seen.of(twin, goOn));
    }

    private static DebtorsHouse houseWithAll() {
        DebtorsHouse x = Check.persons(100, 50, 0);
        Check.act(x, "walk:yes;entry:1;daily:2;", 0);
        x.debt(0, 1, 30, 0, 200, 0);
        x.debt(1, 0, 20, 1, 100, 0);
        x.debt(2, 1, 10, 1, 100, 0);
        x.hold(1, 0);
        x.ring();
        x.least(1, 0, 333);
        x.book(1, -5);
        Check.act(x, "keep:101;", 0);
        Check.feedText(x, 0, "entry:9;");
        x.walk(0, true);
        x.hour();
        return x;
    }

    private static void tapeFaultAndRow() {
        check.says("Promise 38", "Image k (0 .. 2) is all that is told (tape, FAULT, the row at hand, too), as it is now: true;");
        DebtorsHouse x = houseWithAll();
        x.image(0);
        x.pay(0, 30);
        x.ring();
        Check.act(x, "entry:123456;", 0);
        x.feed(0, 0, 0, 0, 0);
        x.again(0);
        check.due("the row at hand", x.count(7) * 100 + x.row(0) * 10 + x.row(1), 201);
        check.due("no third in it", x.row(2), -1);
        check.due("the fault", x.fault(0), 2);
        check.due("its place", x.fault(1), 5);
        check.due("the tape is no longer", x.end(9), -1);
        check.due("the tape", x.end(8), 8);
        check.due("it has the text", x.act(0), 1);
        check.due("which tells", x.tells(0, 1, 1), 9);
        x.again(0);
        check.due("the tape, once more", x.end(8), 8);
        check.due("acts", x.count(3), 1);
        x.end(0);
        Check.feedText(x, 0, "entry:8;");
        x.again(0);
        x.act(0);
        check.due("the bytes that it had", x.tells(0, 1, 1), 9);
        DebtorsHouse y = Check.persons(5);
        y.image(0);
        Check.act(y, "entry:5!", 0);
        Check.feedText(y, 0, "entry:6;");
        y.again(0);
        check.due("no fault", y.fault(0), 0);
        check.due("no place", y.fault(1), -1);
        check.due("an empty tape", y.end(1), -1);
        check.due("no bytes come back", y.feed(0, 0, 0, 0, 0), 20);
    }

    private static void fullTape() {
        check.says("Promise 38", "Image k (0 .. 2) is all that is told (tape, FAULT, the row at hand, too), as it is now: true;");
        DebtorsHouse x = Check.persons(0);
        Check.feedText(x, 0, "keep:8;" + " ".repeat(585) + "entry:9;");
        x.image(0);
        x.end(0);
        Check.feedText(x, 0, "!".repeat(600));
        x.again(0);
        check.due("600 bytes", x.end(600), 600);
        check.due("from the first to the last", x.act(0), 0);
        check.due("the first", x.tells(0, 7, 0), 8);
        check.due("the last", x.tells(0, 1, 0), 9);
    }

    /** Deeds that change each thing that is told, one by one: undone by again(0), done once more by again(1). */
    private static void eachDeed() {
        check.says("Promise 39", "All that is as image k has it: true;");
        String[][] deeds = {{"person 7 7"}, {"debt 2 3 9 3 7 1"}, {"costs 0 7"}, {"pay 0 7"}, {"pay 2 40"}, {"net"},
            {"debt 2 3 5 0 0 0", "debt 3 2 5 0 0 0", "surrender 1", "ring"}, {"hold 3 2"}, {"tire 1 0"}, {"tire 1 0", "leave 0"},
            {"room 0 2"}, {"walk 0 true"}, {"walk 0 true", "hour", "hour"}, {"walk 0 true", "day"}, {"hour"}, {"day"}, {"alms 5"},
            {"least 1 0 1"}, {"compose 0 400"}, {"buy 1 3 9"}, {"surrender 0"}, {"surrender 2", "found 2 7"}, {"surrender 1"},
            {"book 1 -3"}, {"book 1 3"}, {"feed 1 2 3 4 5", "act 0"}, {"end 0", "act 3"}, {"end 0", "act 3", "act 0"}};
        for (String[] deed : deeds) {
            String name = String.join(", ", deed);
            DebtorsHouse twin = deedless();
            String before = Seen.of(twin);
            Seen.of(twin, deed);
            String after = Seen.of(twin);
            check.due(name + " is seen", before.equals(after), false);
            DebtorsHouse x = deedless();
            x.image(0);
            Seen.of(x, deed);
            x.image(1);
            x.again(0);
            check.same("again, without " + name, Seen.of(x), before);
            x.again(1);
            check.same("again, with " + name, Seen.of(x), after);
        }
    }

    private static DebtorsHouse deedless() {
        DebtorsHouse x = Check.persons(1000, 500, 50, 60);
        Check.act(x, "walk if hour=0:yes;entry:1;daily:2;", 0);
        x.day();
        x.debt(0, 1, 1800, 1, 200, 0);
        x.debt(1, 0, 90, 0, 100, 0);
        x.debt(2, 3, 40, 0, 0, 0);
        x.debt(2, 3, 40, 0, 0, 0);
        x.least(1, 0, 400);
        x.hold(1, 0);
        x.day();
        x.ring();
        x.feed(0x656e7472, 0x793a393b, 0x20202020, 0x20202020, 0x20202020);
        return x;
    }

    private static void fourActs() {
        check.says("Promise 39", "All that is as image k has it: true;");
        DebtorsHouse x = Check.persons(0);
        x.image(0);
        for (int n = 1; n <= 2; n++) {
            x.again(0);
            for (int a = 0; a < 4; a++) {
                Check.act(x, "entry:" + (10 * n + a) + ";", a + n);
            }
            x.image(n);
        }
        for (int n = 1; n <= 2; n++) {
            x.again(n);
            for (int a = 0; a < 4; a++) {
                check.due("act " + a + " of house " + n, x.tells(0, 1, a), 10 * n + a);
                check.due("good from its day on", x.good(a + n, 0), a);
            }
            check.due("none ahead of the first", x.good(n - 1, 0), -1);
        }
    }

    private static void partedAgain() {
        check.says("Promise 39", "All that is as image k has it: true;");
        DebtorsHouse x = Check.persons(5, 0, 0);
        x.debt(0, 1, 3, 0, 0, 0);
        x.debt(0, 2, 3, 0, 0, 0);
        x.debt(0, 2, 3, 0, 0, 0);
        x.image(0);
        for (int d = 3; d < 40; d++) {
            x.debt(0, 1, 200 - d, 0, 0, 0);
        }
        x.surrender(0);
        x.found(0, 7);
        x.image(1);
        x.again(0);
        check.due("5 among three", x.surrender(0), 5);
        check.due("by the greatest rests", x.tell(1, 0), 2);
        check.due("of the least debts", x.about(0, 13) * 100 + x.about(1, 13) * 10 + x.about(2, 13), 112);
        check.due("2 found among three lacks", x.found(0, 2), 2);
        check.due("by the greatest rest", x.about(0, 13) * 100 + x.about(1, 13) * 10 + x.about(2, 13), 11);
        x.again(0);
        x.surrender(0);
        x.image(0);
        x.again(1);
        x.found(0, 7);
        x.again(0);
        check.due("2 found, once more", x.found(0, 2), 2);
        check.due("parted as before", x.about(0, 13) * 100 + x.about(1, 13) * 10 + x.about(2, 13), 11);
    }

    /** Two houses that differ in all that is told, one after the other in one object. */
    private static void otherHouseInTheSamePlaces() {
        check.says("Promise 39", "All that is as image k has it: true;");
        for (int n = 1; n <= 2; n++) {
            DebtorsHouse x = new DebtorsHouse();
            x.image(0);
            build(x, n);
            x.image(n);
            x.again(0);
            build(x, 3 - n);
            x.image(3 - n);
            x.again(n);
            DebtorsHouse only = new DebtorsHouse();
            build(only, n);
            check.same("house " + n, Seen.of(x), Seen.of(only));
            goOn(x, n);
            x.again(0);
            check.due("the empty house", x.count(0) + x.count(1) + x.count(3) + x.count(4) + x.count(9), 0);
            x.again(3 - n);
            goOn(x, 3 - n);
        }
    }

    private static void build(DebtorsHouse x, int n) {
        for (int p = 0; p < 4; p++) {
            x.person(1000 * n + p, 3 * n + p % 2);
        }
        Check.act(x, n == 1 ? "walk if hour<3:1;entry:3;" : "walk if hour<2:1;entry:5;daily:1;keep:5;", 0);
        Check.days(x, 5 * n);
        x.debt(n - 1, n, 3600 * n, n, 100 * n, 2 * n);
        x.debt(n, n - 1, 50 + n, n + 1, 10 * n, n);
        x.debt(3, n, 5000 * n, 0, 100 * n, 0);
        x.hold(n, 3);
        x.hold(n, n - 1);
        x.room(3, n);
        x.room(n - 1, 3 - n);
        x.pay(2, 100);
        Check.days(x, n);
        x.walk(3, true);
        Check.hours(x, 3 + 2 * n);
        x.book(n, -10 * n);
        x.book(n, 5 * n);
        x.ring();
        x.day();
        x.surrender(3);
        x.hold(n, n - 1);
        Check.feedText(x, 0, n == 1 ? "held:no;" : "entry:77;");
        x.least(n, n - 1, 100 * n);
    }

    private static void goOn(DebtorsHouse x, int n) {
        check.due("lacks can be parted", x.found(3, 10), 10);
        check.due("interest goes on", x.pay(0, 1) + 1, n == 1 ? 3600 + 5 : 7200 + 36);
        check.due("the book goes on", x.book(n, -20 * n), 25 * n);
        check.due("the tape", x.act(0), 1);
        check.due("what it tells", x.tells(0, n - 1, 1), n == 1 ? 0 : 77);
        check.due("least", x.offer(n - 1), 100 * n);
        check.due("not of the other", x.offer(2 - n), n == 1 ? 1000 : -1);
        check.due("lawful since", x.lawful(n - 1, 2 * n, 5 * n), true);
        check.due("not lawful before", x.lawful(n - 1, 2 * n - 1, 5 * n), false);
    }

    private static void placesAreNew() {
        check.says("Promise 39", "All that is as image k has it: true;");
        DebtorsHouse x = Check.persons(100);
        x.image(0);
        x.person(0, 5);
        x.debt(1, 0, 50, 2, 100, 0);
        x.debt(0, 1, 5, 2, 100, 0);
        Check.act(x, "entry:3;walk if hour=0:yes;", 0);
        x.least(0, 1, 5);
        x.book(1, -9);
        x.hold(0, 1);
        x.room(1, 3);
        x.walk(1, true);
        Check.hours(x, 3);
        x.day();
        x.hold(0, 1);
        x.room(1, 3);
        x.walk(1, true);
        x.buy(0, 1, 0);
        x.costs(0, 5);
        x.surrender(1);
        x.again(0);
        x.person(1, 0);
        x.person(1, 0);
        x.debt(1, 0, 7, 0, 0, 0);
        int[] person = {1, 0, 0, -1, -1, 0, 0, 0, 0, 0, 0, 7, 0, 0, 0};
        for (int what = 0; what < person.length; what++) {
            check.due("a new person in an old place, " + what, x.tell(1, what), person[what]);
        }
        int[] debt = {1, 0, 7, 0, 0, 0, 0, 0, 7, 0, 0, 7, 0, 0, -1};
        for (int what = 0; what < debt.length; what++) {
            check.due("a new debt in an old place, " + what, x.about(0, what), debt[what]);
        }
        check.due("least is 1000", x.offer(1), 1000);
        check.due("no act", x.good(5, 5), -1);
        check.due("a book from 0 on", x.book(1, 1), 0);
        check.due("held in room 0", x.hold(0, 1) && x.tell(1, 4) == 0 && x.tell(1, 6) == 0, true);
    }

    private static void upToTheLastCall() {
        check.says("Calls", "An object is used for at most 512 calls after it has been made; what later calls answer is free.");
        DebtorsHouse x = new DebtorsHouse();
        int right = 0;
        for (int call = 1; call <= 511; call++) {
            right += x.image(call % 3) ? 1 : 0;
        }
        check.due("511 images", right, 511);
        check.due("the 512th call", x.again(0), true);
        DebtorsHouse y = new DebtorsHouse();
        for (int call = 1; call <= 511; call++) {
            y.day();
        }
        check.due("the 512th day", y.day(), 512);
        DebtorsHouse z = Check.persons(1, 1);
        z.image(0);
        for (int i = 0; i < 508 / 4; i++) {
            right += z.again(0) && z.feed(0x656e7472, 0x793a3737, 0x3b202020, 0x20202020, 0x20202020) == 20 && z.act(0) == 0
                && z.tells(1, 1, -1) == 77 ? 1 : 0;
        }
        check.due("127 acts, each the first", right, 511 + 127);
        check.due("the 512th call, too", z.count(3), 1);
    }
}
