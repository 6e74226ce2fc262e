/** Promises 17 to 26: who is held, walks, leaves; hours, days, turns and alms. */
public final class HeldTest {
    private static final Check check = new Check();

    public static void main(String[] args) {
        hold();
        holdByAct();
        tire();
        leave();
        room();
        walk();
        hour();
        day();
        dailyIsToldAsTheDayEnds();
        turn();
        alms();
        tell();
        endedDebtsDetainNot();
        check.finish();
    }

    private static void hold() {
        DebtorsHouse x = Check.persons(0, 0, 0);
        check.due("17: no debt", x.hold(1, 0), false);
        x.debt(0, 1, 5, 0, 0, 0);
        check.due("17: the debtor can't", x.hold(0, 1), false);
        check.due("17: another", x.hold(2, 0), false);
        check.due("17: no such creditor", x.hold(3, 0), false);
        check.due("17: no such debtor", x.hold(1, 3), false);
        check.due("17: below 0", x.hold(-1, 0), false);
        check.due("17: itself", x.hold(0, 0), false);
        check.due("17: held", x.hold(1, 0), true);
        check.due("17: detains already", x.hold(1, 0), false);
        check.due("17: told", x.tell(0, 2), 1);
        check.due("17: since", x.tell(0, 3), 0);
        check.due("17: room", x.tell(0, 4), 0);
        check.due("17: who", x.tell(0, 10), 2);
        x.day();
        x.room(0, 2);
        x.debt(0, 2, 5, 0, 0, 0);
        check.due("17: a second one", x.hold(2, 0), true);
        check.due("17: both", x.tell(0, 10), 6);
        check.due("17: since the first", x.tell(0, 3), 0);
        check.due("17: room stays", x.tell(0, 4), 2);
        check.due("37: held", x.count(6), 1);
    }

    private static void holdByAct() {
        DebtorsHouse x = Check.persons(0, 0, 0);
        Check.act(x, "held if children>2:no;held if sum<50:no;entry:7;", 1);
        x.debt(0, 1, 49, 0, 0, 0);
        x.debt(2, 1, 49, 0, 0, 0);
        check.due("17: not good yet", x.hold(1, 0), true);
        check.due("17: no entry", x.tell(0, 5), 0);
        x.day();
        check.due("17: sum below 50", x.hold(1, 2), false);
        x.costs(1, 1);
        check.due("17: sum 50", x.hold(1, 2), true);
        check.due("17: entry", x.tell(2, 5), 7);
        x.debt(2, 0, 1, 0, 0, 0);
        x.hold(0, 2);
        check.due("17: entry once", x.tell(2, 5), 7);
        DebtorsHouse y = new DebtorsHouse();
        y.person(0, 3);
        y.person(0, 0);
        Check.act(y, "held if children>2:no;", 0);
        y.debt(0, 1, 50, 0, 0, 0);
        check.due("17: children", y.hold(1, 0), false);
    }

    private static void tire() {
        DebtorsHouse x = Check.persons(0, 0, 0);
        x.debt(0, 1, 5, 0, 0, 0);
        x.debt(0, 2, 5, 0, 0, 0);
        check.due("18: not detained", x.tire(1, 0), false);
        x.hold(1, 0);
        x.hold(2, 0);
        check.due("18: no such two", x.tire(3, 0), false);
        check.due("18: below", x.tire(1, -1), false);
        check.due("18: other way", x.tire(0, 1), false);
        check.due("18: tires", x.tire(1, 0), true);
        check.due("18: who", x.tell(0, 10), 4);
        check.due("18: once", x.tire(1, 0), false);
        check.due("18: last", x.tire(2, 0), true);
        check.due("18: held on", x.tell(0, 2), 1);
        check.due("17: again", x.hold(1, 0), true);
    }

    private static void leave() {
        DebtorsHouse x = Check.persons(6, 0);
        Check.act(x, "entry:7;walk:yes;", 0);
        x.debt(0, 1, 5, 0, 0, 0);
        check.due("19: not held", x.leave(0), false);
        check.due("19: none such", x.leave(2), false);
        check.due("19: below", x.leave(-1), false);
        x.hold(1, 0);
        check.due("19: detained", x.leave(0), false);
        x.tire(1, 0);
        check.due("19: fewer coins than fees", x.leave(0), false);
        x.alms(1);
        x.walk(0, true);
        check.due("19: out", x.leave(0), false);
        x.walk(0, false);
        check.due("19: leaves", x.leave(0), true);
        check.due("19: coins", x.tell(0, 0), 0);
        check.due("19: fees", x.tell(0, 5), 0);
        check.due("19: not held any more", x.tell(0, 2), 0);
        check.due("19: since", x.tell(0, 3), -1);
        check.due("19: room", x.tell(0, 4), -1);
        check.due("37: fees paid", x.count(8), 7);
        check.due("19: creditor's coins", x.tell(1, 0), 0);
        check.due("19: twice", x.leave(0), false);
    }

    private static void room() {
        DebtorsHouse x = Check.persons(0, 0);
        x.debt(0, 1, 5, 0, 0, 0);
        check.due("20: not held", x.room(0, 1), false);
        x.hold(1, 0);
        check.due("20: last room", x.room(0, 3), true);
        check.due("20: told", x.tell(0, 4), 3);
        check.due("20: above", x.room(0, 4), false);
        check.due("20: below", x.room(0, -1), false);
        check.due("20: none such", x.room(2, 0), false);
        check.due("20: stays", x.tell(0, 4), 3);
        check.due("20: first room", x.room(0, 0), true);
    }

    private static void walk() {
        DebtorsHouse x = Check.persons(0, 0);
        Check.act(x, "walk if hour=1:yes;", 0);
        x.debt(0, 1, 5, 0, 0, 0);
        x.hold(1, 0);
        check.due("21: not in this hour", x.walk(0, true), false);
        check.due("21: is in", x.walk(0, false), false);
        x.hour();
        check.due("21: not held", x.walk(1, true), false);
        check.due("21: none such", x.walk(2, true), false);
        check.due("21: below", x.walk(-1, false), false);
        check.due("21: out", x.walk(0, true), true);
        check.due("21: told", x.tell(0, 6), 1);
        check.due("21: is out", x.walk(0, true), false);
        x.hour();
        check.due("21: back in any hour", x.walk(0, false), true);
        check.due("21: told in", x.tell(0, 6), 0);
    }

    private static void hour() {
        DebtorsHouse x = Check.persons(0, 0, 0);
        Check.act(x, "walk if hour>7 and hour<10:yes;", 0);
        x.debt(0, 1, 5, 0, 0, 0);
        x.debt(2, 1, 5, 0, 0, 0);
        x.hold(1, 0);
        x.hold(1, 2);
        for (int h = 1; h <= 8; h++) {
            check.due("22: hour " + h, x.hour(), h);
        }
        x.walk(0, true);
        x.hour();
        check.due("22: hour 8 went by", x.tell(0, 7), 0);
        x.hour();
        check.due("22: hour 9 went by", x.tell(0, 7), 0);
        x.hour();
        check.due("22: hour 10 went by", x.tell(0, 7), 1);
        x.hour();
        check.due("22: hour 11 went by", x.tell(0, 7), 2);
        x.walk(0, false);
        x.hour();
        check.due("22: is back", x.tell(0, 7), 2);
        check.due("22: was in", x.tell(2, 7), 0);
        check.due("37: hour", x.count(5), 13);
        Check.hours(x, 10);
        check.due("22: it is 23", x.hour(), -1);
        check.due("22: stays 23", x.count(5), 23);
        x.day();
        check.due("22: 0 as a day begins", x.count(5), 0);
        check.due("22: goes on", x.hour(), 1);
    }

    private static void day() {
        DebtorsHouse x = Check.persons(0, 0, 0);
        Check.act(x, "entry:7;daily if room=0:2;daily:5;walk:yes;", 0);
        x.debt(0, 1, 5, 0, 0, 0);
        x.debt(2, 1, 5, 0, 0, 0);
        x.hold(1, 0);
        x.hold(1, 2);
        x.room(2, 1);
        check.due("23: day", x.day(), 1);
        check.due("23: daily in room 0", x.tell(0, 5), 9);
        check.due("23: daily in room 1", x.tell(2, 5), 12);
        check.due("23: not held", x.tell(1, 5), 0);
        x.walk(0, true);
        check.due("23: day 2", x.day(), 2);
        check.due("23: escaped", x.tell(0, 9), 1);
        check.due("23: held no more", x.tell(0, 2), 0);
        check.due("23: nobody detains it", x.tell(0, 10), 0);
        check.due("23: fees are gone", x.tell(0, 5), 0);
        check.due("23: out no more", x.tell(0, 6), 0);
        check.due("23: since", x.tell(0, 3), -1);
        check.due("23: fees are not paid", x.count(8), 0);
        check.due("23: the other one", x.tell(2, 5), 17);
        check.due("17: held anew", x.hold(1, 0), true);
        check.due("17: entry anew", x.tell(0, 5), 7);
        check.due("17: since anew", x.tell(0, 3), 2);
        check.due("37: day", x.count(4), 2);
    }

    private static void dailyIsToldAsTheDayEnds() {
        DebtorsHouse x = Check.persons(0, 0);
        Check.act(x, "daily if hour=2 and days=0:10;daily if days=0:1;daily if days=1:100;", 0);
        x.debt(0, 1, 5, 0, 0, 0);
        x.hold(1, 0);
        Check.hours(x, 2);
        Check.act(x, "daily:1000;", 2);
        x.day();
        check.due("23: by the day that ends", x.tell(0, 5), 10);
        x.day();
        check.due("23: by the second", x.tell(0, 5), 110);
        x.day();
        check.due("23: by the new act", x.tell(0, 5), 1110);
    }

    private static void turn() {
        DebtorsHouse x = Check.persons(0, 0, 0, 0);
        Check.act(x, "walk:yes;", 0);
        check.due("24: nobody", x.turn(), -1);
        x.debt(0, 3, 5, 0, 0, 0);
        x.debt(1, 3, 5, 0, 0, 0);
        x.debt(2, 3, 5, 0, 0, 0);
        x.hold(3, 2);
        check.due("24: the only one", x.turn(), 2);
        x.hold(3, 1);
        check.due("24: the least", x.turn(), 1);
        x.day();
        check.due("24: turns", x.tell(1, 8), 1);
        check.due("24: none of another", x.tell(2, 8), 0);
        x.hold(3, 0);
        check.due("24: since the earliest day", x.turn(), 2);
        x.day();
        check.due("24: the fewest turns", x.turn(), 0);
        x.day();
        check.due("24: one each: the earliest, the least", x.turn(), 1);
        x.walk(1, true);
        x.day();
        check.due("24: escaped, with a turn more", x.tell(1, 8), 2);
        check.due("24: the next", x.turn(), 2);
        x.hold(3, 1);
        check.due("24: turns so far stay", x.tell(1, 8), 2);
        x.tire(3, 2);
        x.leave(2);
        check.due("24: the one left", x.turn(), 0);
    }

    private static void alms() {
        DebtorsHouse x = Check.persons(3, 0);
        check.due("25: nobody is held", x.alms(5), -1);
        x.debt(0, 1, 5, 0, 0, 0);
        x.hold(1, 0);
        check.due("25: 0", x.alms(0), -1);
        check.due("25: above", x.alms(10001), -1);
        check.due("25: below", x.alms(-1), -1);
        check.due("25: least", x.alms(1), 0);
        check.due("25: most", x.alms(10000), 0);
        check.due("25: coins", x.tell(0, 0), 10004);
        check.due("25: no turn by it", x.tell(0, 8), 0);
    }

    private static void tell() {
        DebtorsHouse x = new DebtorsHouse();
        x.person(11, 4);
        x.person(12, 0);
        int[] want = {11, 4, 0, -1, -1, 0, 0, 0, 0, 0, 0, 0, 0, 0, 0};
        for (int what = 0; what < want.length; what++) {
            check.due("26: tell(0, " + what + ")", x.tell(0, what), want[what]);
        }
        check.due("26: another what", x.tell(0, 15), -100);
        check.due("26: what below", x.tell(0, -1), -100);
        check.due("26: none such", x.tell(2, 0), -100);
        check.due("26: below", x.tell(-1, 11), -100);
        x.debt(0, 1, 40, 0, 0, 0);
        x.debt(0, 1, 2, 0, 0, 0);
        x.costs(0, 5);
        check.due("26: due of it", x.tell(0, 11), 47);
        check.due("26: due to it", x.tell(1, 12), 47);
        x.pay(1, 2);
        check.due("26: live ones alone", x.tell(0, 11), 45);
        check.due("26: live ones alone, to it", x.tell(1, 12), 45);
        check.due("26: nothing the other way", x.tell(1, 11) + x.tell(0, 12), 0);
    }

    private static void endedDebtsDetainNot() {
        DebtorsHouse x = Check.persons(100, 100, 100);
        x.debt(0, 1, 10, 0, 0, 0);
        x.debt(0, 1, 20, 0, 0, 0);
        x.hold(1, 0);
        x.pay(0, 10);
        check.due("T3: one live debt is left", x.tell(0, 10), 2);
        x.pay(1, 20);
        check.due("T3: none is left", x.tell(0, 10), 0);
        check.due("T3: may leave", x.leave(0), true);
        x.debt(0, 1, 10, 0, 0, 0);
        x.hold(1, 0);
        x.buy(2, 2, 5);
        check.due("T3: sold", x.tell(0, 10), 0);
        check.due("T3: the buyer may hold it", x.hold(2, 0), true);
        x.compose(0, 1000);
        check.due("T3: composed", x.tell(0, 10), 0);
        x.debt(0, 1, 10, 0, 0, 0);
        x.hold(1, 0);
        x.surrender(0);
        check.due("T3: surrendered", x.tell(0, 10), 0);
        check.due("T3: held on", x.tell(0, 2), 1);
    }
}
