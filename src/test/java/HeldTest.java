/** Term 3 and promises 17 to 26, sentence by sentence: who is held, walks, leaves; hours, days, turns and alms. */
public final class HeldTest {
    private static final Check check = new Check();
    private static final int LOW = Check.LOW;
    private static final int HIGH = Check.HIGH;

    public static void main(String[] args) {
        hold();
        holdRefused();
        heldByTheActOfNow();
        entered();
        tire();
        endedDebtsDetainNot();
        leave();
        leaveRefused();
        room();
        walk();
        walkRefused();
        hour();
        late();
        day();
        lastDay();
        escaped();
        daily();
        dailyIsToldAsTheDayEnds();
        turn();
        turnOfTwelve();
        turnIsOneMore();
        alms();
        tell();
        tellRefused();
        tellDues();
        check.finish();
    }

    private static void hold() {
        check.says("Promise 17", "A creditor has a debtor HELD: true;");
        DebtorsHouse x = Check.persons(0, 0, 0);
        x.debt(0, 1, 5, 0, 0, 0);
        check.due("held", x.hold(1, 0), true);
        check.due("tell 2", x.tell(0, 2), 1);
        check.due("since", x.tell(0, 3), 0);
        check.due("one is held", x.count(6), 1);
        check.says("Term 3", "it DETAINS it then; who was not HELD is now, in ROOM 0, and owes what entry tells as FEES.");
        check.due("who detains", x.tell(0, 10), 2);
        check.due("room", x.tell(0, 4), 0);
        check.due("entry tells 0", x.tell(0, 5), 0);
        check.due("in", x.tell(0, 6), 0);
        x.day();
        x.room(0, 2);
        x.debt(0, 2, 5, 0, 0, 0);
        Check.act(x, "entry:9;walk:yes;", 0);
        x.walk(0, true);
        check.due("by a second one", x.hold(2, 0), true);
        check.due("both detain", x.tell(0, 10), 6);
        check.due("held since the first", x.tell(0, 3), 0);
        check.due("in the room it was in", x.tell(0, 4), 2);
        check.due("out as it was", x.tell(0, 6), 1);
        check.due("without another entry", x.tell(0, 5), 0);
        check.due("one is held, once", x.count(6), 1);
        DebtorsHouse y = Check.persons(0, 0, 0, 0, 0, 0, 0, 0, 0, 0, 0, 0);
        y.debt(11, 10, 5, 0, 0, 0);
        y.debt(10, 11, 5, 0, 0, 0);
        check.due("the last has the one ahead held", y.hold(11, 10), true);
        check.due("and the other way round", y.hold(10, 11), true);
        check.due("bit 11", y.tell(10, 10), 2048);
        check.due("bit 10", y.tell(11, 10), 1024);
    }

    private static void holdRefused() {
        check.says("Promise 17", "false: it can't, or detains it.");
        DebtorsHouse x = Check.persons(50, 0, 0);
        check.due("no debt", x.hold(1, 0), false);
        x.debt(0, 1, 5, 0, 0, 0);
        check.due("the debtor can't", x.hold(0, 1), false);
        check.due("another can't", x.hold(2, 0), false);
        check.due("itself", x.hold(0, 0), false);
        for (int nobody : new int[] {-1, 3, 12, 31, 32, 33, LOW, HIGH}) {
            check.due("creditor " + nobody, x.hold(nobody, 0), false);
            check.due("debtor " + nobody, x.hold(1, nobody), false);
            check.due("neither, " + nobody, x.hold(nobody, nobody), false);
        }
        check.due("nobody is held", x.count(6), 0);
        x.hold(1, 0);
        check.due("it detains already", x.hold(1, 0), false);
        check.due("it detains on", x.tell(0, 10), 2);
        x.tire(1, 0);
        x.pay(0, 5);
        check.due("the debt is paid", x.hold(1, 0), false);
        x.debt(0, 1, 500, 0, 0, 0);
        x.surrender(0);
        check.due("the debt is released", x.hold(1, 0), false);
        check.due("nobody detains", x.tell(0, 10), 0);
        check.says("Term 3", "A creditor of a LIVE DEBT may have the debtor HELD, if held tells other than 0 "
            + "(by the ACT that is GOOD now), and does not detain it yet:");
        DebtorsHouse y = Check.persons(0, 0, 0);
        y.debt(0, 1, 5, 0, 0, 0);
        y.person(9, 0);
        y.buy(0, 3, 1);
        check.due("who sold it can't", y.hold(1, 0), false);
        check.due("who bought it can", y.hold(3, 0), true);
    }

    private static void heldByTheActOfNow() {
        check.says("Term 3", "THE HOUSE. A creditor of a LIVE DEBT may have the debtor HELD, if held tells other than 0 "
            + "(by the ACT that is GOOD now), and does not detain it yet:");
        DebtorsHouse x = Check.persons(0, 0, 0);
        Check.act(x, "held if children>2:no;held if sum<50:no;held:7;", 1);
        x.debt(0, 1, 49, 0, 0, 0);
        x.debt(2, 1, 49, 0, 0, 0);
        check.due("not good yet", x.hold(1, 0), true);
        x.day();
        check.due("sum below 50", x.hold(1, 2), false);
        check.due("not held", x.tell(2, 2), 0);
        x.costs(1, 1);
        check.due("sum 50, told 7", x.hold(1, 2), true);
        x.debt(0, 2, 1, 0, 0, 0);
        check.due("by a second creditor, sum 50", x.hold(2, 0), true);
        x.tire(2, 0);
        x.found(0, 1);
        x.pay(0, 1);
        check.due("sum 49 again", x.hold(2, 0), false);
        check.due("the first detains on", x.tell(0, 10), 2);
        DebtorsHouse y = new DebtorsHouse();
        y.person(0, 3);
        y.person(0, 0);
        Check.act(y, "held if children>2:no;", 0);
        y.debt(0, 1, 50, 0, 0, 0);
        check.due("children", y.hold(1, 0), false);
        Check.act(y, "held:yes;", 0);
        check.due("by a newer act", y.hold(1, 0), true);
    }

    private static void entered() {
        check.says("Term 3", "it DETAINS it then; who was not HELD is now, in ROOM 0, and owes what entry tells as FEES.");
        DebtorsHouse x = Check.persons(0, 0, 0);
        Check.act(x, "entry if debts=1:7;entry:99999;walk:yes;daily:1;", 0);
        x.debt(0, 1, 49, 0, 0, 0);
        x.hold(1, 0);
        check.due("fees", x.tell(0, 5), 7);
        check.due("no coins", x.tell(0, 0), 0);
        check.due("fees are not due to anybody", x.tell(0, 11), 49);
        x.debt(0, 2, 1, 0, 0, 0);
        x.hold(2, 0);
        check.due("entry once", x.tell(0, 5), 7);
        x.room(0, 3);
        x.tire(1, 0);
        x.tire(2, 0);
        x.hold(1, 0);
        check.due("it was held all the while: no entry", x.tell(0, 5), 7);
        check.due("no other room", x.tell(0, 4), 3);
        x.walk(0, true);
        x.day();
        x.day();
        x.hold(2, 0);
        check.due("held anew", x.tell(0, 5), 99999);
        check.due("in room 0", x.tell(0, 4), 0);
        check.due("in", x.tell(0, 6), 0);
        check.due("since now", x.tell(0, 3), 2);
        check.due("by that one alone", x.tell(0, 10), 4);
    }

    private static void tire() {
        check.says("Promise 18", "A creditor tires: true; false: it does not detain it, or there are no such two.");
        DebtorsHouse x = Check.persons(0, 0, 0);
        x.debt(0, 1, 5, 0, 0, 0);
        x.debt(0, 2, 5, 0, 0, 0);
        check.due("it does not detain it", x.tire(1, 0), false);
        x.hold(1, 0);
        x.hold(2, 0);
        for (int nobody : new int[] {-1, 3, 12, 33, LOW, HIGH}) {
            check.due("creditor " + nobody, x.tire(nobody, 0), false);
            check.due("debtor " + nobody, x.tire(1, nobody), false);
        }
        check.due("one for itself", x.tire(0, 0), false);
        check.due("the other way round", x.tire(0, 1), false);
        check.due("both detain", x.tell(0, 10), 6);
        check.due("it tires", x.tire(1, 0), true);
        check.due("the other detains", x.tell(0, 10), 4);
        check.due("once", x.tire(1, 0), false);
        check.says("Term 3", "A creditor may tire: it detains the debtor no more;");
        check.due("the last", x.tire(2, 0), true);
        check.due("nobody", x.tell(0, 10), 0);
        check.due("held on", x.tell(0, 2), 1);
        check.due("it may have it held again", x.hold(1, 0), true);
        check.due("it detains", x.tell(0, 10), 2);
    }

    private static void endedDebtsDetainNot() {
        check.says("Term 3", "so, too, if it has no LIVE DEBT of it any more.");
        DebtorsHouse x = Check.persons(100, 100, 100);
        x.debt(0, 1, 10, 0, 0, 0);
        x.debt(0, 1, 20, 0, 0, 0);
        x.debt(0, 2, 20, 0, 0, 0);
        x.hold(1, 0);
        x.hold(2, 0);
        x.pay(0, 10);
        check.due("one live debt is left", x.tell(0, 10), 6);
        x.pay(1, 19);
        check.due("a penny of it is left", x.tell(0, 10), 6);
        x.pay(1, 1);
        check.due("none is left", x.tell(0, 10), 4);
        check.due("held on", x.tell(0, 2), 1);
        x.pay(2, 20);
        check.due("none of the other is left", x.tell(0, 10), 0);
        check.due("it may leave", x.leave(0), true);
        x.debt(0, 1, 10, 0, 0, 0);
        x.hold(1, 0);
        x.buy(3, 2, 5);
        check.due("sold", x.tell(0, 10), 0);
        check.due("the buyer may hold it", x.hold(2, 0), true);
        x.compose(0, 1000);
        check.due("composed", x.tell(0, 10), 0);
        x.debt(0, 1, 10, 0, 0, 0);
        x.hold(1, 0);
        x.debt(1, 0, 10, 0, 0, 0);
        x.net();
        check.due("netted", x.tell(0, 10), 0);
        x.debt(0, 1, 1000, 0, 0, 0);
        x.hold(1, 0);
        x.surrender(0);
        check.due("surrendered", x.tell(0, 10), 0);
        check.due("held on, after all", x.tell(0, 2), 1);
        DebtorsHouse y = Check.persons(0, 9, 9);
        y.debt(1, 0, 9, 0, 0, 0);
        y.debt(2, 0, 9, 0, 0, 0);
        y.hold(0, 1);
        y.hold(0, 2);
        y.pay(0, 9);
        check.due("by the first person, not any more", y.tell(1, 10), 0);
        check.due("another one by the first person", y.tell(2, 10), 1);
    }

    private static void leave() {
        check.says("Term 3", "A HELD one whom nobody detains leaves by paying its FEES.");
        check.says("Promise 19", "A HELD one leaves: true;");
        DebtorsHouse x = Check.persons(7, 0);
        Check.act(x, "entry:7;", 0);
        x.debt(0, 1, 5, 0, 0, 0);
        x.hold(1, 0);
        x.room(0, 1);
        x.tire(1, 0);
        check.due("with its last coins", x.leave(0), true);
        check.due("coins", x.tell(0, 0), 0);
        check.due("fees", x.tell(0, 5), 0);
        check.due("held no more", x.tell(0, 2), 0);
        check.due("since", x.tell(0, 3), -1);
        check.due("room", x.tell(0, 4), -1);
        check.due("fees that were paid", x.count(8), 7);
        check.due("the creditor has none of them", x.tell(1, 0), 0);
        check.due("the debt is as it was", x.about(0, 11), 5);
        x.hold(1, 0);
        x.tire(1, 0);
        x.alms(10);
        x.leave(0);
        check.due("fees that were paid twice", x.count(8), 14);
        check.due("coins are left", x.tell(0, 0), 3);
        DebtorsHouse y = Check.persons(0, 0);
        y.debt(0, 1, 5, 0, 0, 0);
        y.hold(1, 0);
        y.tire(1, 0);
        check.due("without fees and coins", y.leave(0), true);
    }

    private static void leaveRefused() {
        check.says("Promise 19", "false: there is none such, somebody detains it, it is OUT, or it has fewer COINS than FEES.");
        DebtorsHouse x = Check.persons(6, 0);
        Check.act(x, "entry:7;walk:yes;", 0);
        x.debt(0, 1, 5, 0, 0, 0);
        check.due("not held", x.leave(0), false);
        for (int nobody : new int[] {-1, 2, 12, LOW, HIGH}) {
            check.due("leave(" + nobody + ")", x.leave(nobody), false);
        }
        x.hold(1, 0);
        x.alms(1);
        check.due("somebody detains it", x.leave(0), false);
        x.tire(1, 0);
        x.walk(0, true);
        check.due("it is out", x.leave(0), false);
        x.walk(0, false);
        x.pay(0, 1);
        check.due("one coin too few", x.leave(0), false);
        check.due("held on", x.tell(0, 2), 1);
        check.due("coins as they were", x.tell(0, 0), 6);
        check.due("fees as they were", x.tell(0, 5), 7);
        check.due("none were paid", x.count(8), 0);
        x.alms(1);
        check.due("as many as fees", x.leave(0), true);
        check.due("twice", x.leave(0), false);
        check.due("paid once", x.count(8), 7);
    }

    private static void room() {
        check.says("Promise 20", "ROOM of a HELD one, 0 .. 3, from now on: true; false for others.");
        DebtorsHouse x = Check.persons(0, 0);
        x.debt(0, 1, 5, 0, 0, 0);
        check.due("not held", x.room(0, 1), false);
        x.hold(1, 0);
        for (int room : new int[] {3, 1, 2, 0, 0}) {
            check.due("room " + room, x.room(0, room), true);
            check.due("tell 4", x.tell(0, 4), room);
        }
        x.room(0, 3);
        for (int room : new int[] {-1, 4, LOW, HIGH}) {
            check.due("room " + room, x.room(0, room), false);
        }
        for (int nobody : new int[] {-1, 1, 2, 12, LOW, HIGH}) {
            check.due("of " + nobody, x.room(nobody, 0), false);
        }
        check.due("as it was", x.tell(0, 4), 3);
        check.due("none of another", x.tell(1, 4), -1);
        x.day();
        check.due("on the next day", x.tell(0, 4), 3);
    }

    private static void walk() {
        check.says("Term 3", "HELD ones may walk OUT in an HOUR for which walk tells other than 0.");
        check.says("Promise 21", "A HELD one walks OUT, or (out false) is back: true;");
        DebtorsHouse x = Check.persons(0, 0);
        Check.act(x, "walk if hour=1:5;walk if hour=23:yes;", 0);
        x.debt(0, 1, 5, 0, 0, 0);
        x.hold(1, 0);
        for (int hour = 0; hour <= 23; hour++) {
            boolean may = hour == 1 || hour == 23;
            check.due("out in hour " + hour, x.walk(0, true), may);
            check.due("tell 6 in hour " + hour, x.tell(0, 6), may ? 1 : 0);
            check.due("back in hour " + hour, x.walk(0, false), may);
            check.due("in again", x.tell(0, 6), 0);
            x.hour();
        }
        x.day();
        x.hour();
        x.walk(0, true);
        x.hour();
        check.due("back in an hour for which walk tells 0", x.walk(0, false), true);
        check.due("held on", x.tell(0, 2), 1);
        check.due("who detains it", x.tell(0, 10), 2);
    }

    private static void walkRefused() {
        check.says("Promise 21", "false: there is none such, it is so, or walk tells 0 (OUT).");
        DebtorsHouse x = Check.persons(0, 0);
        x.debt(0, 1, 5, 0, 0, 0);
        x.hold(1, 0);
        check.due("walk tells 0", x.walk(0, true), false);
        check.due("it is in", x.walk(0, false), false);
        Check.act(x, "walk:yes;", 0);
        for (int nobody : new int[] {-1, 1, 2, 12, LOW, HIGH}) {
            check.due("out, " + nobody, x.walk(nobody, true), false);
            check.due("back, " + nobody, x.walk(nobody, false), false);
        }
        check.due("in, as it was", x.tell(0, 6), 0);
        check.due("out", x.walk(0, true), true);
        check.due("it is out", x.walk(0, true), false);
        check.due("out, as it was", x.tell(0, 6), 1);
        check.due("back", x.walk(0, false), true);
        check.due("it is back", x.walk(0, false), false);
        x.tire(1, 0);
        x.leave(0);
        check.due("it is held no more", x.walk(0, true), false);
        check.due("nor is it out", x.walk(0, false), false);
    }

    private static void hour() {
        check.says("Promise 22", "An HOUR goes by: which one it is.");
        check.says("Term 3", "HOURS of a DAY are 0 .. 23, 0 as it begins; they only go on.");
        DebtorsHouse x = Check.persons(0, 0, 0);
        check.due("the first", x.count(5), 0);
        for (int h = 1; h <= 23; h++) {
            check.due("hour " + h, x.hour(), h);
            check.due("count(5)", x.count(5), h);
        }
        check.says("Promise 22", "NONE: it is 23.");
        check.due("it is 23", x.hour(), -1);
        check.due("it is 23 still", x.hour(), -1);
        check.due("count(5), as it was", x.count(5), 23);
        check.due("the day as it was", x.count(4), 0);
        x.day();
        check.due("0 as a day begins", x.count(5), 0);
        check.due("it goes on", x.hour(), 1);
        x.day();
        check.due("0 after hour 1", x.count(5), 0);
    }

    private static void late() {
        check.says("Term 3", "As an HOUR goes by, each that is OUT, and for which walk tells 0 in it, is LATE once more.");
        DebtorsHouse x = Check.persons(0, 0, 0, 0);
        Check.act(x, "walk if hour>7 and hour<10:yes;walk if hour>9 and debts=2:yes;", 0);
        x.debt(0, 1, 5, 0, 0, 0);
        x.debt(2, 1, 5, 0, 0, 0);
        x.debt(3, 1, 5, 0, 0, 0);
        x.debt(3, 1, 5, 0, 0, 0);
        x.hold(1, 0);
        x.hold(1, 2);
        x.hold(1, 3);
        Check.hours(x, 8);
        x.walk(0, true);
        x.walk(3, true);
        x.hour();
        check.due("hour 8 went by", x.tell(0, 7), 0);
        x.hour();
        check.due("hour 9 went by", x.tell(0, 7), 0);
        x.hour();
        check.due("hour 10 went by", x.tell(0, 7), 1);
        x.hour();
        check.due("hour 11 went by", x.tell(0, 7), 2);
        x.walk(0, false);
        x.hour();
        check.due("is back", x.tell(0, 7), 2);
        check.due("was in", x.tell(2, 7), 0);
        check.due("may be out", x.tell(3, 7), 0);
        Check.hours(x, 11);
        x.hour();
        check.due("it is 23: no hour goes by", x.tell(3, 7), 0);
        x.day();
        Check.hours(x, 8);
        x.walk(0, true);
        Check.hours(x, 3);
        check.due("on another day, once more", x.tell(0, 7), 3);
        Check.hours(x, 12);
        check.due("each hour up to 23", x.tell(0, 7), 15);
        x.hour();
        check.due("it is 23: none goes by", x.tell(0, 7), 15);
        x.walk(0, false);
        x.tire(1, 0);
        x.leave(0);
        x.hold(1, 0);
        check.due("it stays late", x.tell(0, 7), 15);
    }

    private static void day() {
        check.says("Promise 23", "The DAY ends: which one it is now.");
        DebtorsHouse x = Check.persons(0, 0, 0);
        check.due("day 0", x.count(4), 0);
        check.due("day 1", x.day(), 1);
        Check.hours(x, 5);
        check.due("day 2", x.day(), 2);
        check.due("count(4)", x.count(4), 2);
        check.due("hour 0", x.count(5), 0);
        check.due("day 3", x.day(), 3);
    }

    /** The last day is behind the 512th call: there the document leaves answers free, but the class keeps to it. */
    private static void lastDay() {
        check.says("Promise 23", "NONE: it is 9999.");
        check.says("Term 1", "DAYS go from 0 on, to 9999.");
        DebtorsHouse x = Check.persons(0, 0);
        Check.act(x, "daily:1;", 9999);
        x.debt(0, 1, 100000, 0, 200, 0);
        x.hold(1, 0);
        int wrong = 0;
        for (int day = 1; day <= 9999; day++) {
            wrong += x.day() == day ? 0 : 1;
        }
        check.due("days up to 9999", wrong, 0);
        check.due("turns", x.tell(0, 8), 9999);
        check.due("interest", x.about(0, 9), 555500);
        check.due("since 9999", x.debt(1, 0, 1, 0, 0, 9999), 1);
        check.due("since 10000", x.debt(1, 0, 1, 0, 0, 10000), -1);
        x.hour();
        check.due("it is 9999", x.day(), -1);
        check.due("count(4)", x.count(4), 9999);
        check.due("no hour began", x.count(5), 1);
        check.due("no turn more", x.tell(0, 8), 9999);
        check.due("no daily fees", x.tell(0, 5), 0);
    }

    private static void escaped() {
        check.says("Term 3", "A DAY ends: who is HELD and OUT has ESCAPED: it is HELD no more, nobody detains it, "
            + "its FEES are gone;");
        DebtorsHouse x = Check.persons(0, 0, 0);
        Check.act(x, "entry:7;daily:5;walk:yes;", 0);
        x.debt(0, 1, 5, 0, 0, 0);
        x.debt(0, 2, 5, 0, 0, 0);
        x.debt(2, 1, 5, 0, 0, 0);
        x.hold(1, 0);
        x.hold(2, 0);
        x.hold(1, 2);
        x.day();
        x.walk(0, true);
        x.walk(2, true);
        x.walk(2, false);
        x.room(0, 3);
        check.due("held, and out", x.tell(0, 2) * 10 + x.tell(0, 6), 11);
        check.due("day 2", x.day(), 2);
        check.due("how often", x.tell(0, 9), 1);
        check.due("held no more", x.tell(0, 2), 0);
        check.due("since", x.tell(0, 3), -1);
        check.due("room", x.tell(0, 4), -1);
        check.due("nobody detains it", x.tell(0, 10), 0);
        check.due("fees are gone", x.tell(0, 5), 0);
        check.due("they were not paid", x.count(8), 0);
        check.due("out no more", x.tell(0, 6), 0);
        check.due("its debts are live", x.tell(0, 11), 10);
        check.due("who was back is held", x.tell(2, 2), 1);
        check.due("and owes fees", x.tell(2, 5), 17);
        check.due("and has not escaped", x.tell(2, 9), 0);
        x.hold(2, 0);
        x.walk(0, true);
        x.day();
        check.due("how often then", x.tell(0, 9), 2);
        x.day();
        check.due("not on a day it was not held", x.tell(0, 9), 2);
        check.due("held", x.count(6), 1);
    }

    private static void daily() {
        check.says("Term 3", "each other HELD one owes what daily tells more FEES.");
        DebtorsHouse x = Check.persons(0, 0, 0, 0);
        Check.act(x, "entry:7;daily if room=0:2;daily if room=3:99999;daily:0;", 0);
        x.debt(0, 1, 5, 0, 0, 0);
        x.debt(2, 1, 5, 0, 0, 0);
        x.debt(3, 1, 5, 0, 0, 0);
        x.hold(1, 0);
        x.hold(1, 2);
        x.hold(1, 3);
        x.room(2, 3);
        x.room(3, 1);
        x.tire(1, 3);
        x.day();
        check.due("in room 0", x.tell(0, 5), 9);
        check.due("in room 3", x.tell(2, 5), 100006);
        check.due("in room 1", x.tell(3, 5), 7);
        check.due("not held", x.tell(1, 5), 0);
        x.day();
        check.due("in room 0, again", x.tell(0, 5), 11);
        check.due("in room 3, again", x.tell(2, 5), 200005);
        x.hour();
        check.due("not by hours", x.tell(0, 5), 11);
    }

    private static void dailyIsToldAsTheDayEnds() {
        check.says("Term 3", "each other HELD one owes what daily tells more FEES.");
        DebtorsHouse x = Check.persons(0, 0);
        Check.act(x, "daily if hour=2 and days=0:10;daily if days=0:1;daily if days=1:100;", 0);
        x.debt(0, 1, 5, 0, 0, 0);
        x.hold(1, 0);
        Check.hours(x, 2);
        Check.act(x, "daily:1000;", 2);
        x.day();
        check.due("by the day that ends", x.tell(0, 5), 10);
        x.day();
        check.due("by the second", x.tell(0, 5), 110);
        x.day();
        check.due("by the new act", x.tell(0, 5), 1110);
    }

    private static void turn() {
        check.says("Promise 24", "NONE: nobody is HELD.");
        DebtorsHouse x = Check.persons(0, 0, 0, 0);
        check.due("nobody", x.turn(), -1);
        x.debt(0, 3, 5, 0, 0, 0);
        x.debt(1, 3, 5, 0, 0, 0);
        x.debt(2, 3, 5, 0, 0, 0);
        check.due("nobody yet", x.turn(), -1);
        check.says("Promise 24", "The PERSON whose TURN it is today.");
        x.hold(3, 2);
        check.due("the only one", x.turn(), 2);
        check.says("Term 3", "THE TURN of a DAY: of those HELD the one with the fewest TURNS so far, "
            + "of several the one HELD since the earliest DAY, then the least;");
        x.hold(3, 1);
        check.due("the least", x.turn(), 1);
        x.day();
        check.due("turns of it", x.tell(1, 8), 1);
        check.due("turns of another", x.tell(2, 8), 0);
        x.hold(3, 0);
        check.due("since the earliest day", x.turn(), 2);
        x.day();
        check.due("the fewest turns", x.turn(), 0);
        x.day();
        check.due("one each: the earliest, then the least", x.turn(), 1);
        x.tire(3, 1);
        x.leave(1);
        check.due("the earliest that is left", x.turn(), 2);
        x.hold(3, 1);
        check.due("held since today, it comes behind", x.turn(), 2);
        x.day();
        check.due("one each, without the turn of 2", x.turn(), 0);
        x.day();
        check.due("the last of that round", x.turn(), 1);
        x.day();
        check.due("two each: the earliest", x.turn(), 2);
        for (int p = 0; p < 3; p++) {
            x.tire(3, p);
            x.leave(p);
        }
        check.says("Promise 24", "NONE: nobody is HELD.");
        check.due("nobody is left", x.turn(), -1);
        check.due("a day of nobody", x.day(), 7);
        check.due("has no turn", x.tell(0, 8) + x.tell(1, 8) + x.tell(2, 8) + x.tell(3, 8), 6);
    }

    private static void turnOfTwelve() {
        check.says("Term 3", "THE TURN of a DAY: of those HELD the one with the fewest TURNS so far, "
            + "of several the one HELD since the earliest DAY, then the least;");
        DebtorsHouse x = Check.persons(0, 0, 0, 0, 0, 0, 0, 0, 0, 0, 0, 0);
        for (int p = 11; p >= 0; p--) {
            x.debt(p, (p + 1) % 12, 5, 0, 0, 0);
            x.hold((p + 1) % 12, p);
        }
        check.due("all are held", x.count(6), 12);
        for (int day = 0; day < 30; day++) {
            check.due("on day " + day, x.turn(), day % 12);
            x.day();
        }
        check.due("three turns", x.tell(5, 8), 3);
        check.due("two turns", x.tell(6, 8), 2);
    }

    private static void turnIsOneMore() {
        check.says("Term 3", "As the DAY ends (ahead of all that) it has one TURN more.");
        DebtorsHouse x = Check.persons(0, 0, 0);
        Check.act(x, "walk:yes;", 0);
        x.debt(0, 2, 5, 0, 0, 0);
        x.debt(1, 2, 5, 0, 0, 0);
        x.hold(2, 0);
        x.hold(2, 1);
        check.due("no turn yet", x.tell(0, 8), 0);
        x.walk(0, true);
        check.due("out, it is its turn", x.turn(), 0);
        x.day();
        check.due("it has escaped", x.tell(0, 9), 1);
        check.due("and had its turn", x.tell(0, 8), 1);
        check.due("the other had none", x.tell(1, 8), 0);
        check.due("the next", x.turn(), 1);
        x.hold(2, 0);
        check.due("turns so far stay", x.tell(0, 8), 1);
        check.due("the next, still", x.turn(), 1);
        x.day();
        check.due("one each, the other is held longer", x.turn(), 1);
        x.hour();
        x.alms(3);
        check.due("no turn by hours and alms", x.tell(1, 8), 1);
    }

    private static void alms() {
        check.says("Promise 25", "Alms, 1 .. 10000: whose they are. NONE: nobody is HELD, or another number.");
        DebtorsHouse x = Check.persons(3, 0, 0);
        check.due("nobody is held", x.alms(5), -1);
        check.due("nobody has them", x.count(9), 3);
        x.debt(0, 1, 5, 0, 0, 0);
        x.debt(2, 1, 5, 0, 0, 0);
        x.hold(1, 0);
        x.hold(1, 2);
        for (int coins : new int[] {0, -1, 10001, LOW, HIGH}) {
            check.due("alms " + coins, x.alms(coins), -1);
        }
        check.due("coins as they were", x.count(9), 3);
        check.due("the least", x.alms(1), 0);
        check.due("the most", x.alms(10000), 0);
        check.says("Term 3", "alms go to its COINS.");
        check.due("coins", x.tell(0, 0), 10004);
        x.day();
        check.due("on the next day", x.alms(7), 2);
        check.due("coins of the other", x.tell(2, 0), 7);
        check.due("coins of the first", x.tell(0, 0), 10004);
        check.due("no turn by alms", x.tell(2, 8), 0);
    }

    private static void tellIs(String which, DebtorsHouse x, int person, int... want) {
        for (int what = 0; what < want.length; what++) {
            check.due("tell(" + person + ", " + what + ") " + which, x.tell(person, what), want[what]);
        }
    }

    private static void tell() {
        check.says("Promise 26", "Of a PERSON, what 0: COINS, 1: CHILDREN, 2: 1 if HELD, else 0, 3: since when (NONE), "
            + "4: ROOM (NONE), 5: FEES, 6: 1 if OUT, else 0, 7: LATE, 8: TURNS, 9: how often ESCAPED, "
            + "10: who DETAIN it (bits), 11: what is DUE of all its LIVE DEBTS, 12: what is DUE to it of all, "
            + "13: 1 if it SURRENDERED, else 0, 14: CONCEALED.");
        DebtorsHouse x = new DebtorsHouse();
        x.person(11, 4);
        x.person(12, 0);
        tellIs("of a new one", x, 0, 11, 4, 0, -1, -1, 0, 0, 0, 0, 0, 0, 0, 0, 0, 0);
        Check.act(x, "entry:5;daily:3;walk if hour=0:yes;", 0);
        Check.days(x, 2);
        x.debt(0, 1, 40, 0, 0, 0);
        x.debt(1, 0, 6, 0, 0, 0);
        x.book(0, -8);
        x.hold(1, 0);
        x.day();
        x.room(0, 2);
        x.walk(0, true);
        Check.hours(x, 3);
        tellIs("of one that is out", x, 0, 11, 4, 1, 2, 2, 8, 1, 2, 1, 0, 2, 40, 6, 0, 8);
        tellIs("of the creditor", x, 1, 12, 0, 0, -1, -1, 0, 0, 0, 0, 0, 0, 6, 40, 0, 0);
        x.day();
        x.surrender(0);
        tellIs("of one that surrendered", x, 0, 0, 4, 0, -1, -1, 0, 0, 2, 2, 1, 0, 0, 6, 1, 8);
    }

    private static void tellRefused() {
        check.says("Promise 26", "-100 if there is none such, or for another what.");
        DebtorsHouse x = Check.persons(1, 1);
        for (int nobody : new int[] {-1, 2, 11, 12, LOW, HIGH}) {
            for (int what = 0; what <= 14; what++) {
                check.due("tell(" + nobody + ", " + what + ")", x.tell(nobody, what), -100);
            }
        }
        for (int what : new int[] {-1, 15, 16, LOW, HIGH}) {
            check.due("tell(0, " + what + ")", x.tell(0, what), -100);
        }
        DebtorsHouse y = new DebtorsHouse();
        check.due("nobody at all", y.tell(0, 0), -100);
    }

    private static void tellDues() {
        check.says("Promise 26", "11: what is DUE of all its LIVE DEBTS, 12: what is DUE to it of all,");
        DebtorsHouse x = Check.persons(100, 0, 100);
        check.due("nothing", x.tell(0, 11) + x.tell(1, 12), 0);
        x.debt(0, 1, 3600, 0, 100, 0);
        x.debt(0, 1, 2, 0, 0, 0);
        x.debt(0, 2, 30, 0, 0, 0);
        x.costs(0, 5);
        Check.days(x, 3);
        check.due("of it", x.tell(0, 11), 3640);
        check.due("to 1", x.tell(1, 12), 3610);
        check.due("to 2", x.tell(2, 12), 30);
        x.pay(1, 2);
        check.due("of live ones alone", x.tell(0, 11), 3638);
        check.due("to it of live ones alone", x.tell(1, 12), 3608);
        x.buy(0, 2, 9);
        check.due("sold, nothing to 1", x.tell(1, 12), 0);
        check.due("bought, all to 2", x.tell(2, 12), 3638);
        check.due("nothing the other way", x.tell(1, 11) + x.tell(2, 11) + x.tell(0, 12), 0);
    }
}
