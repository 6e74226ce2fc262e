/** Promises 10 to 16: the tape, acts, faults, what is good, what topics tell, what was lawful. */
public final class ActsTest {
    private static final Check check = new Check();

    public static void main(String[] args) {
        feedAndEnd();
        act();
        goodTexts();
        faultOne();
        faultTwoAndThree();
        fault();
        good();
        tells();
        tests();
        tellsNow();
        lawful();
        lawfulFacts();
        check.finish();
    }

    private static void feedAndEnd() {
        DebtorsHouse x = new DebtorsHouse();
        check.due("11: empty", x.end(0), 0);
        check.due("11: not so many", x.end(1), -1);
        for (int i = 1; i <= 30; i++) {
            check.due("10: feed " + i, x.feed(0, 0, 0, 0, 0), 20 * i);
        }
        check.due("10: above 600", x.feed(1, 2, 3, 4, 5), -1);
        check.due("11: all", x.end(600), 600);
        check.due("11: above", x.end(601), -1);
        check.due("11: below 0", x.end(-1), -1);
        check.due("11: fewer", x.end(581), 581);
        check.due("10: 601 would be", x.feed(1, 2, 3, 4, 5), -1);
        check.due("10: nothing came", x.end(582), -1);
        check.due("11: one fewer", x.end(580), 580);
        check.due("10: 600", x.feed(1, 2, 3, 4, 5), 600);
        DebtorsHouse y = Check.persons(0);
        y.feed(0x68656c64, 0x3a6e6f3b, 0x656e7472, 0x793a373b, 0x20202020);
        check.due("10: the highest byte first", y.act(0), 0);
        check.due("10: held", y.tells(0, 0, 0), 0);
        check.due("10: entry", y.tells(0, 1, 0), 7);
    }

    private static void act() {
        DebtorsHouse x = Check.persons(0);
        check.due("12: empty text", x.act(0), 0);
        check.due("12: another day", Check.act(x, "held:no;", -1), -2);
        check.due("12: the tape is taken by another day", x.end(1), -1);
        check.due("12: day above", Check.act(x, "held", 10000), -2);
        check.due("12: no text is read", x.fault(0), 0);
        check.due("12: the tape is taken by a day above", x.feed(0, 0, 0, 0, 0), 20);
        check.due("12: last day", Check.act(x, "held:no;", 9999), 1);
        check.due("12: the tape is empty then", x.end(1), -1);
        check.due("12: a fault", Check.act(x, "held", 0), -1);
        check.due("12: the tape is empty then, too", x.end(1), -1);
        check.due("12: none came", x.count(3), 2);
        check.due("12: third", Check.act(x, "keep:100;", 3), 2);
        check.due("12: fourth", Check.act(x, "held:yes;", 3), 3);
        check.due("12: a fault, once more", x.fault(0), 0);
        check.due("12: there are 4", Check.act(x, "held", 0), -2);
        check.due("12: fault 0 then", x.fault(0), 0);
        check.due("12: place NONE then", x.fault(1), -1);
        check.due("12: the tape is taken where there are 4", x.end(1), -1);
        check.due("12: count", x.count(3), 4);
    }

    private static void goodTexts() {
        String[] texts = {"", " ", "\n \n", "held:no;", " held : no ; ", "held\nif\nsum<1\nand not debts=2:00000;",
            "walk if hour>7 and hour<10:yes;", "entry:99999;", "held if sum>1and debts<2:5;", "number:100;worth:100;keep:100;",
            "number:yes;", "opens if not coins=1 and not room=2 and not rank=3 and not children=4:no;"};
        for (String text : texts) {
            DebtorsHouse x = Check.persons(0);
            check.due("12: '" + text + "'", Check.act(x, text, 0), 0);
            check.due("13: '" + text + "'", x.fault(0), 0);
            check.due("13: place of '" + text + "'", x.fault(1), -1);
        }
        StringBuilder twenty = new StringBuilder();
        for (int i = 0; i < 20; i++) {
            twenty.append("held:no;");
        }
        check.due("12: twenty lines", Check.act(Check.persons(0), twenty.toString(), 0), 0);
    }

    private static void faultOne() {
        faultIs("held", 1, 4);
        faultIs("held   ", 1, 7);
        faultIs("held:", 1, 5);
        faultIs("held:no", 1, 7);
        faultIs("held:no;entry", 1, 13);
        faultIs("held if:yes;", 1, 7);
        faultIs("give:1;", 1, 0);
        faultIs("helds:1;", 1, 0);
        faultIs("heldz:1;", 1, 0);
        faultIs("heldaz:1;", 1, 0);
        faultIs("held if sum>99999:1;held if sum>9:z;", 1, 34);
        faultIs(" \n  Held:1;", 1, 4);
        faultIs("held if not not sum>1:no;", 1, 12);
        faultIs("held if sum 1:no;", 1, 12);
        faultIs("held if sum>1 and:no;", 1, 17);
        faultIs("held if sum>1 or sum>2:no;", 1, 14);
        faultIs("held if sum>yes:no;", 1, 12);
        faultIs("held if sum>:no;", 1, 12);
        faultIs("held if sum;1:no;", 1, 11);
        faultIs("held if yes>1:no;", 1, 8);
        faultIs("held and sum>1:no;", 1, 5);
        faultIs("held=1;", 1, 4);
        faultIs("held:maybe;", 1, 5);
        faultIs("held:not;", 1, 5);
        faultIs("held:no:", 1, 7);
        faultIs("held:no,", 1, 7);
        faultIs("held:no;;", 1, 8);
        faultIs("held:1 2;", 1, 7);
        faultIs("entry:123456;", 1, 6);
        faultIs("held if sum>123456:no;", 1, 12);
        faultIs("held if sum>000001:no;", 1, 12);
        faultIs("held:no;123456", 1, 8);
        faultIs("held:no;\t", 1, 8);
        faultIs("held:no;" + (char) 200, 1, 8);
        faultIs("held:no;" + (char) 0, 1, 8);
        faultIs("children:1;", 1, 0);
        faultIs("held if held>1:no;", 1, 8);
        faultIs("he ld:no;", 1, 0);
        faultIs("held:n o;", 1, 5);
        faultIs("if", 1, 0);
        faultIs("held if not", 1, 11);
        faultIs("held if sum", 1, 11);
        faultIs("held if sum<", 1, 12);
        faultIs("held if sum<1", 1, 13);
        faultIs("held if sum<=1:no;", 1, 12);
        faultIs("abcdefghijklmnopqrstuvwxyz:1;", 1, 0);
    }

    private static void faultTwoAndThree() {
        faultIs("keep:101;", 2, 5);
        faultIs("number : 101;", 2, 9);
        faultIs("worth if sum=200:00101;", 2, 17);
        faultIs("held:101;entry:101;daily:101;walk:101;buyer:101;opens:101;", 0, -1);
        faultIs("keep:101;held", 1, 13);
        faultIs("keep:101;held:1!", 1, 15);
        faultIs("keep:100;keep:99999;number:99999;", 2, 14);
        String five = "walk if sum=1 and sum=1 and sum=1 and sum=1 and sum=1:no;";
        faultIs(five, 3, 48);
        faultIs("walk if sum=1 and sum=1 and sum=1 and sum=1 and not sum=1:no;", 3, 48);
        faultIs(five + "keep:101;", 3, 48);
        faultIs("keep:101;" + five, 2, 5);
        faultIs("keep if sum=1 and sum=1 and sum=1 and sum=1 and sum=1 and sum=2:101;", 3, 48);
        StringBuilder lines = new StringBuilder();
        for (int i = 0; i < 20; i++) {
            lines.append("held:no;");
        }
        faultIs(lines + "\nkeep:101;", 3, 161);
        faultIs("keep:101;" + lines, 2, 5);
        faultIs(lines + "held:no;held:no;", 3, 160);
        faultIs(lines + five, 3, 160);
        faultIs(lines + "held:no;x", 1, 168);
        faultIs(lines + "held", 1, 164);
    }

    private static void faultIs(String text, int fault, int place) {
        DebtorsHouse x = Check.persons(0);
        check.due("12: '" + text + "'", Check.act(x, text, 0), fault == 0 ? 0 : -1);
        check.due("13: fault of '" + text + "'", x.fault(0), fault);
        check.due("13: place in '" + text + "'", x.fault(1), place);
        check.due("12: acts", x.count(3), fault == 0 ? 1 : 0);
    }

    private static void fault() {
        DebtorsHouse x = Check.persons(0);
        Check.act(x, "keep:101;", 0);
        check.due("13: another what", x.fault(2), -1);
        check.due("13: what below", x.fault(-1), -1);
        check.due("13: stays", x.fault(0), 2);
        Check.act(x, "keep:101;", 10000);
        check.due("13: of the latest", x.fault(0), 0);
        Check.act(x, "x", 0);
        check.due("13: of the latest, again", x.fault(0), 1);
        Check.act(x, "", 0);
        check.due("13: without", x.fault(0), 0);
        check.due("13: without a place", x.fault(1), -1);
    }

    private static void good() {
        DebtorsHouse x = Check.persons(0);
        check.due("14: none", x.good(5, 5), -1);
        Check.act(x, "", 5);
        Check.act(x, "", 3);
        x.day();
        Check.act(x, "", 4);
        x.day();
        Check.act(x, "", 0);
        check.due("14: as known on 0", x.good(5, 0), 1);
        check.due("14: good from 3", x.good(3, 0), 1);
        check.due("14: not good yet", x.good(2, 0), -1);
        check.due("14: as known on 1", x.good(4, 1), 2);
        check.due("14: on 3 as known on 1", x.good(3, 1), 1);
        check.due("14: as known on 2", x.good(9999, 9999), 3);
        check.due("14: back in time", x.good(0, 2), 3);
        check.due("14: day below", x.good(-1, 3), -1);
        check.due("14: day above", x.good(10000, 3), -1);
        check.due("14: known below", x.good(3, -1), -1);
        check.due("14: known above", x.good(3, 10000), -1);
    }

    private static void tells() {
        DebtorsHouse x = Check.persons(0, 5);
        int[] without = {1, 0, 0, 0, 50, 75, 1, 0, 1};
        for (int topic = 0; topic < 9; topic++) {
            check.due("15: without an act " + topic, x.tells(0, topic, -1), without[topic]);
        }
        Check.act(x, "entry:3;entry:4;number:yes;worth:no;keep:00012;", 0);
        int[] with = {1, 3, 0, 0, 1, 0, 1, 12, 1};
        for (int topic = 0; topic < 9; topic++) {
            check.due("15: by act 0 " + topic, x.tells(1, topic, 0), with[topic]);
            check.due("15: by that good now " + topic, x.tells(1, topic, -1), with[topic]);
        }
        check.due("15: no topic", x.tells(0, 9, -1), -1);
        check.due("15: topic below", x.tells(0, -1, -1), -1);
        check.due("15: no person", x.tells(2, 0, -1), -1);
        check.due("15: person below", x.tells(-1, 0, 0), -1);
        check.due("15: no act", x.tells(0, 0, 1), -1);
        check.due("15: act below", x.tells(0, 0, -2), -1);
    }

    private static void tests() {
        DebtorsHouse x = new DebtorsHouse();
        x.person(50, 3);
        x.person(0, 0);
        Check.act(x, "entry if sum=0:1;entry if sum<101:2;entry if sum>101:3;entry:4;"
            + "daily if rank=9:1;daily if not rank>1:2;daily:3;"
            + "walk if room>1 and hour=2:1;walk if days>0:2;walk if children=3 and coins=50:3;walk:4;"
            + "held if debts=2:7;held if not debts=0:8;held:9;", 0);
        check.due("15: sum 0", x.tells(0, 1, -1), 1);
        check.due("15: rank 9 without", x.tells(0, 2, -1), 1);
        check.due("15: debts 0", x.tells(0, 0, -1), 9);
        check.due("15: children and coins", x.tells(0, 3, -1), 3);
        check.due("15: not those", x.tells(1, 3, -1), 4);
        x.debt(0, 1, 100, 2, 200, 0);
        check.due("15: sum 100", x.tells(0, 1, -1), 2);
        check.due("15: rank 2", x.tells(0, 2, -1), 3);
        check.due("15: debts 1", x.tells(0, 0, -1), 8);
        check.due("15: the creditor has none", x.tells(1, 0, -1), 9);
        x.costs(0, 1);
        check.due("15: sum is what is due", x.tells(0, 1, -1), 4);
        x.debt(0, 1, 1, 1, 0, 0);
        check.due("15: sum 102", x.tells(0, 1, -1), 3);
        check.due("15: least rank", x.tells(0, 2, -1), 2);
        check.due("15: debts 2", x.tells(0, 0, -1), 7);
        x.pay(1, 1);
        check.due("15: live ones alone", x.tells(0, 0, -1), 8);
        x.hold(1, 0);
        check.due("15: held today", x.tells(0, 3, -1), 4);
        x.room(0, 2);
        Check.hours(x, 2);
        check.due("15: room and hour", x.tells(0, 3, -1), 1);
        check.due("15: hour alone", x.tells(1, 3, -1), 4);
        x.day();
        check.due("15: days held", x.tells(0, 3, -1), 2);
        check.due("15: days not held", x.tells(1, 3, -1), 4);
        DebtorsHouse y = Check.persons(0, 0);
        Check.act(y, "entry if days=0:1;entry if days=3:2;", 0);
        y.debt(0, 1, 1, 0, 0, 0);
        Check.days(y, 2);
        y.hold(1, 0);
        check.due("15: days from then on", y.tells(0, 1, -1), 1);
        Check.days(y, 3);
        check.due("15: three days held", y.tells(0, 1, -1), 2);
    }

    private static void tellsNow() {
        DebtorsHouse x = Check.persons(0);
        Check.act(x, "entry:1;", 2);
        Check.act(x, "entry:2;", 1);
        Check.act(x, "entry:3;", 9);
        check.due("15: none is good yet", x.tells(0, 1, -1), 0);
        check.due("15: by one that is not good", x.tells(0, 1, 2), 3);
        x.day();
        check.due("15: act 1", x.tells(0, 1, -1), 2);
        x.day();
        check.due("15: the greatest number", x.tells(0, 1, -1), 2);
    }

    private static void lawful() {
        DebtorsHouse x = Check.persons(1000, 0);
        check.due("16: no debt", x.lawful(0, 0, 0), false);
        Check.days(x, 5);
        x.debt(0, 1, 100, 1, 0, 2);
        check.due("16: since", x.lawful(0, 2, 5), true);
        check.due("16: not since then", x.lawful(0, 1, 5), false);
        check.due("16: not known then", x.lawful(0, 2, 4), false);
        check.due("16: the creditor", x.lawful(1, 2, 5), false);
        check.due("16: later", x.lawful(0, 9999, 9999), true);
        Check.days(x, 2);
        x.pay(0, 100);
        check.due("16: ended by both", x.lawful(0, 7, 7), false);
        check.due("16: ended later than d", x.lawful(0, 6, 7), true);
        check.due("16: ended, but not as known", x.lawful(0, 9, 6), true);
        check.due("16: ended earlier than both", x.lawful(0, 8, 9), false);
        check.due("16: no person", x.lawful(2, 2, 5), false);
        check.due("16: below", x.lawful(-1, 2, 5), false);
        check.due("16: d below", x.lawful(0, -1, 5), false);
        check.due("16: d above", x.lawful(0, 10000, 6), false);
        check.due("16: k above", x.lawful(0, 6, 10000), false);
        check.due("16: k below", x.lawful(0, 6, -1), false);
        Check.act(x, "held:no;", 3);
        check.due("16: the act is not known", x.lawful(0, 6, 6), true);
        check.due("16: the act is known", x.lawful(0, 6, 7), false);
        check.due("16: the act is not good", x.lawful(0, 2, 7), true);
    }

    private static void lawfulFacts() {
        DebtorsHouse x = new DebtorsHouse();
        x.person(30, 2);
        x.person(0, 0);
        Check.act(x, "held if sum=300 and debts=2 and rank=1:yes;held if sum=100 and debts=1 and rank=3:yes;held:no;", 0);
        x.debt(0, 1, 100, 3, 200, 0);
        x.costs(0, 9);
        Check.days(x, 4);
        x.debt(0, 1, 200, 1, 0, 3);
        check.due("16: both", x.lawful(0, 3, 4), true);
        check.due("16: the first, by its sum", x.lawful(0, 3, 3), true);
        x.pay(0, 20);
        check.due("16: sums, not what is due", x.lawful(0, 4, 4), true);
        x.debt(0, 1, 1, 0, 0, 4);
        check.due("16: a third one", x.lawful(0, 4, 4), false);
        check.due("16: not on that day", x.lawful(0, 3, 4), true);
        Check.act(x, "held if days>0:no;held if room>0:no;held if hour>0:no;held if children=2 and coins=10:yes;held:no;", 0);
        x.hold(1, 0);
        x.room(0, 3);
        x.day();
        x.hour();
        check.due("16: all else 0", x.lawful(0, 4, 4), true);
        check.due("16: coins 10", x.tell(0, 0), 10);
        x.pay(0, 1);
        check.due("16: coins as they are", x.lawful(0, 4, 4), false);
    }
}
