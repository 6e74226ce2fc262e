import java.util.ArrayList;
import java.util.List;
import java.util.function.Consumer;

/**
 * Calls that are refused, and calls that only ask, leave all as it was: a house with such a call and its twin without
 * it answer alike, all that can be asked for first, then calls that go on with what else is kept.
 */
public final class RefusedTest {
    private static final Check check = new Check();
    private static final String LOW = " " + Integer.MIN_VALUE;
    private static final String HIGH = " " + Integer.MAX_VALUE;

    /** Of the house that busy() builds. */
    private static final String[] REFUSED = {
        "person -1 0", "person 1000001 0", "person 0 -1", "person 0 10",
        "debt 4 0 5 0 0 0", "debt -1 0 5 0 0 0", "debt 0 4 5 0 0 0", "debt 0 -1 5 0 0 0", "debt 0 0 5 0 0 0",
        "debt 0 1 0 0 0 0", "debt 0 1 -1 0 0 0", "debt 0 1 100001 0 0 0", "debt 0 1 5 -1 0 0", "debt 0 1 5 4 0 0",
        "debt 0 1 5 0 -1 0", "debt 0 1 5 0 201 0", "debt 0 1 5 0 0 -1", "debt 0 1 5 0 0 6",
        "costs 6 5", "costs 5 5", "costs -1 5", "costs 2 5", "costs 3 5", "costs 0 0", "costs 0 -1", "costs 0 10001",
        "pay 6 1", "pay 5 1", "pay -1 1", "pay 2 1", "pay 3 1", "pay 0 0", "pay 0 -1", "pay 0 501", "pay 1 341", "pay 4 78",
        "about 6 0", "about -1 11", "about 0 15", "about 0 -1",
        "row -1", "row 2", "row 12", "end -1", "end 18", "end 600", "end 601", "fault -1", "fault 2",
        "good -1 5", "good 5 -1", "good 10000 5", "good 5 10000",
        "tells 4 0 -1", "tells -1 0 -1", "tells 0 9 -1", "tells 0 -1 -1", "tells 0 0 2", "tells 0 0 -2",
        "lawful 4 5 5", "lawful -1 5 5", "lawful 0 -1 5", "lawful 0 10000 5", "lawful 0 5 -1", "lawful 0 5 10000",
        "lawful 0 0 5", "lawful 0 5 2",
        "hold 1 0", "hold 3 0", "hold 0 3", "hold 0 0", "hold 4 0", "hold 0 4", "hold -1 0", "hold 0 -1",
        "tire 3 0", "tire 0 2", "tire 0 0", "tire 4 0", "tire 0 4", "tire -1 0", "tire 0 -1",
        "leave 0", "leave 1", "leave 2", "leave 4", "leave -1",
        "room 0 4", "room 0 -1", "room 2 1", "room 4 1", "room -1 1",
        "walk 0 true", "walk 1 false", "walk 2 true", "walk 2 false", "walk 4 true", "walk -1 false",
        "alms 0", "alms -1", "alms 10001", "tell 4 0", "tell -1 11", "tell 0 15", "tell 0 -1",
        "least 0 0 5", "least 4 0 5", "least 0 4 5", "least -1 0 5", "least 0 -1 5", "least 1 0 -1", "least 1 0 1001",
        "binds 0 399", "binds 0 -1", "binds 0 1001", "binds 4 500", "binds -1 500", "binds 2 1000",
        "offer 2", "offer 4", "offer -1",
        "compose 0 399", "compose 0 -1", "compose 0 1001", "compose 0 1000", "compose 4 500", "compose -1 500", "compose 3 500",
        "buy 6 3 1", "buy 5 0 1", "buy -1 3 1", "buy 2 1 1", "buy 3 0 1", "buy 0 0 1", "buy 0 1 1", "buy 0 4 1", "buy 0 -1 1",
        "buy 0 3 -1", "buy 0 3 100001", "buy 1 2 1",
        "swing 0 0 500 0", "swing 4 3 500 0", "swing 0 4 500 0", "swing -1 3 500 0", "swing 0 -1 500 0", "swing 0 3 -1 0",
        "swing 0 3 1001 0", "swing 0 3 500 2", "swing 0 3 500 -1", "swing 3 0 500 0",
        "surrender 2", "surrender 3", "surrender 4", "surrender -1",
        "found 0 0", "found 0 -1", "found 0 1000001", "found 4 5", "found -1 5",
        "book 0 0", "book 0 100001", "book 0 -100001", "book 4 5", "book -1 5",
        "free -1 0", "free 1000001 0", "free 5 3", "free 5 -1", "count -1", "count 12",
        "image -1", "image 3", "again -1", "again 2", "again 3"};

    /** Each of their numbers is put very low and very high. */
    private static final String[] GOOD = {"person 5 5", "debt 0 1 5 0 0 0", "costs 0 5", "pay 0 5", "about 0 8", "row 0", "end 3",
        "fault 0", "good 5 5", "tells 0 0 0", "lawful 0 5 5", "hold 3 0", "tire 1 0", "leave 1", "room 0 1", "walk 0 false",
        "alms 5", "tell 0 0", "least 1 0 5", "binds 0 500", "offer 0", "compose 0 500", "buy 0 3 5", "swing 0 3 500 0",
        "surrender 0", "found 0 5", "book 0 5", "free 5 0", "count 0", "image 0", "again 0"};

    private static final String[] ASKING = {"about 0 9", "about 0 11", "row 0", "fault 1", "good 5 5", "tells 0 1 0", "tells 1 0 -1",
        "lawful 0 5 5", "turn", "tell 0 11", "tell 1 12", "binds 0 500", "binds 0 1000", "offer 0", "offer 1",
        "swing 0 3 500 0", "swing 0 3 100 1", "swing 0 1 0 1", "free 0 0", "free 5000 1", "free 1000000 2", "count 10", "end 17",
        "ring"};

    private static final String[] GO_ON = {"hour", "act 0", "fault 0", "fault 1", "count 3", "tells 0 1 2", "tells 3 6 2",
        "binds 0 400", "swing 0 3 100 0", "swing 1 3 0 0", "net", "row 0", "row 1", "about 0 8", "about 0 9", "day", "about 1 9",
        "turn", "tell 0 2", "tell 0 7", "tell 1 5", "hold 1 0", "found 2 7", "about 2 13", "book 0 -5", "book 1 -9", "alms 3",
        "free 5000 0", "free 5000 1", "free 5000 2", "lawful 0 3 3", "lawful 3 2 3", "found 0 900", "compose 0 400", "surrender 1", "tell 0 0",
        "tell 1 0", "again 2", "again 0", "count 4", "about 0 11", "tell 0 6", "offer 0", "offer 1", "act 0", "count 7",
        "again 1", "count 5", "tell 0 6", "tell 1 4", "tell 0 14", "act 0", "fault 0", "person 0 0", "count 0"};

    public static void main(String[] args) {
        for (String call : REFUSED) {
            refused("busy", RefusedTest::busy, call, GO_ON);
        }
        for (String call : GOOD) {
            for (String extreme : extremes(call)) {
                refused("busy", RefusedTest::busy, extreme, GO_ON);
            }
        }
        for (String call : ASKING) {
            leavesAll("busy", RefusedTest::busy, call, GO_ON);
        }
        inFullHouses();
        inEmptyHouses();
        withoutARing();
        acts();
        check.finish();
    }

    /** Debts 0 (0 owes 1), 1 (1 owes 0) and 4 (0 owes 2, who bought it) are LIVE, 2 and 5 released, 3 paid; 0 is OUT. */
    private static void busy(DebtorsHouse x) {
        int[] coins = {500, 300, 50, 1000};
        for (int p = 0; p < coins.length; p++) {
            x.person(coins[p], p);
        }
        Check.act(x, "walk if hour<9:yes;entry:3;daily:2;", 0);
        Check.days(x, 3);
        x.debt(0, 1, 1790, 1, 200, 1);
        x.debt(1, 0, 900, 0, 100, 0);
        x.debt(2, 3, 90, 0, 0, 0);
        x.debt(3, 1, 40, 0, 0, 2);
        x.debt(0, 3, 77, 2, 0, 3);
        x.costs(0, 9);
        x.least(1, 0, 400);
        x.least(3, 0, 650);
        x.least(2, 0, 150);
        x.least(0, 1, 300);
        x.pay(3, 40);
        x.buy(4, 2, 10);
        x.surrender(2);
        x.found(2, 100);
        x.debt(2, 3, 90, 1, 0, 0);
        x.surrender(2);
        x.book(0, -30);
        x.book(0, 10);
        x.book(1, 5);
        x.hold(1, 0);
        x.hold(0, 1);
        x.image(0);
        Check.days(x, 2);
        x.room(1, 2);
        x.walk(0, true);
        Check.hours(x, 5);
        x.image(1);
        Check.act(x, "opens:yes;number:40;held:yes;", 40);
        Check.act(x, "keep:101;", 0);
        Check.feedText(x, 0, "entry:9;buyer:no;");
        x.ring();
    }

    private static List<String> extremes(String call) {
        List<String> all = new ArrayList<>();
        String[] words = call.split(" ");
        for (int i = 1; i < words.length; i++) {
            if (!words[i].equals("false")) {
                all.add(with(words, i, LOW));
                all.add(with(words, i, HIGH));
            }
        }
        return all;
    }

    private static String with(String[] words, int place, String number) {
        StringBuilder call = new StringBuilder(words[0]);
        for (int i = 1; i < words.length; i++) {
            call.append(i == place ? number : " " + words[i]);
        }
        return call.toString();
    }

    /** What a refused call answers, by the document. */
    private static int refusal(String call) {
        switch (call.split(" ")[0]) {
            case "about": case "tell": return -100;
            case "lawful": case "hold": case "tire": case "leave": case "room": case "walk": case "least": case "binds":
            case "buy": case "image": case "again": return 0;
            default: return -1;
        }
    }

    private static void refused(String name, Consumer<DebtorsHouse> build, String call, String... goOn) {
        check.due(call + " in a " + name + " house", leavesAll(name, build, call, goOn), refusal(call));
    }

    private static int leavesAll(String name, Consumer<DebtorsHouse> build, String call, String... goOn) {
        DebtorsHouse x = new DebtorsHouse();
        DebtorsHouse twin = new DebtorsHouse();
        build.accept(x);
        build.accept(twin);
        int answer = Seen.answer(x, call);
        check.same("as it was after " + call + " in a " + name + " house", Seen.of(x), Seen.of(twin));
        check.same("going on after " + call + " in a " + name + " house", Seen.of(x, goOn), Seen.of(twin, goOn));
        return answer;
    }

    private static void inFullHouses() {
        String[] goOn = {"end 600", "end 599", "act 0", "fault 1", "day", "count 5", "tell 0 14", "tell 11 14", "tells 0 1 3", "good 0 0"};
        for (String call : new String[] {"person 1 1", "feed 1 2 3 4 5", "book 0 1", "book 11 -1", "hour"}) {
            refused("full", RefusedTest::full, call, goOn);
        }
        refused("full", RefusedTest::fortyDebts, "debt 0 1 1 0 0 0", "pay 1 2", "debt 1 0 1 0 0 0", "count 1", "count 10");
    }

    private static void full(DebtorsHouse x) {
        for (int p = 0; p < 12; p++) {
            x.person(p, 0);
        }
        for (int a = 0; a < 4; a++) {
            Check.act(x, "entry:" + a + ";", a);
        }
        for (int i = 0; i < 60; i++) {
            x.book(i % 2 == 0 ? 0 : 11, -1 - i);
        }
        for (int i = 0; i < 30; i++) {
            x.feed(0x20202020, 0x20202020, 0x20202020, 0x20202020, 0x20202020);
        }
        Check.hours(x, 23);
    }

    private static void fortyDebts(DebtorsHouse x) {
        x.person(5, 0);
        x.person(5, 0);
        for (int d = 0; d < 40; d++) {
            x.debt(d % 2, 1 - d % 2, 1 + d, d % 4, 0, 0);
        }
        x.pay(0, 1);
    }

    private static void inEmptyHouses() {
        for (String call : new String[] {"ring", "net", "row 0", "alms 5", "turn", "end 1", "again 0", "again 1", "again 2",
            "good 0 0", "offer 0", "surrender 0", "leave 0", "hold 0 1", "debt 0 1 5 0 0 0", "pay 0 5", "costs 0 5", "found 0 5",
            "book 0 5", "compose 0 1000", "buy 0 1 0", "swing 0 1 500 0", "binds 0 1000", "least 0 1 5", "lawful 0 0 0",
            "tells 0 0 -1", "about 0 0", "tell 0 0"}) {
            refused("new", x -> { }, call, "feed 0 0 0 0 0", "hour", "day", "person 5 5", "tell 0 0", "again 0", "turn", "free 5 0");
        }
    }

    private static void withoutARing() {
        for (String call : new String[] {"ring", "net"}) {
            refused("ringless", x -> {
                x.person(9, 0);
                x.person(9, 0);
                x.debt(0, 1, 1800, 0, 100, 0);
                x.hold(1, 0);
                x.day();
            }, call, "day", "about 0 9", "row 0", "debt 1 0 3 0 0 0", "net", "about 0 8", "row 1");
        }
    }

    /** act() takes the tape where it refuses, too; so the twin's tape is emptied. */
    private static void acts() {
        String[] goOn = {"end 1", "feed 0 0 0 0 0", "end 0", "act 0", "tells 0 1 0", "again 0", "end 8", "end 9"};
        for (int from : new int[] {-1, 10000, Integer.MIN_VALUE, Integer.MAX_VALUE}) {
            DebtorsHouse x = oneAct("entry:5;");
            DebtorsHouse twin = oneAct("entry:5;");
            check.due("act(" + from + ")", x.act(from), -2);
            twin.end(0);
            check.same("as it was after act(" + from + ")", Seen.of(x), Seen.of(twin));
            check.same("going on after act(" + from + ")", Seen.of(x, goOn), Seen.of(twin, goOn));
        }
        DebtorsHouse x = oneAct("entry:5!");
        DebtorsHouse twin = oneAct("entry:5!");
        check.due("act(0) of a faulty text", x.act(0), -1);
        twin.end(0);
        String faults = "fault 0 -> 1\nfault 1 -> 7\n";
        check.same("as it was after a fault", Seen.of(x), Seen.of(twin).replace("fault 0 -> 0\nfault 1 -> -1\n", faults));
        check.same("going on after a fault", Seen.of(x, goOn), Seen.of(twin, goOn));
        DebtorsHouse four = new DebtorsHouse();
        full(four);
        DebtorsHouse fourTwin = new DebtorsHouse();
        full(fourTwin);
        check.due("act(0) where there are 4", four.act(0), -2);
        fourTwin.end(0);
        check.same("as it was with 4", Seen.of(four), Seen.of(fourTwin));
        check.same("going on with 4", Seen.of(four, goOn), Seen.of(fourTwin, goOn));
    }

    private static DebtorsHouse oneAct(String tape) {
        DebtorsHouse x = Check.persons(5, 5);
        Check.act(x, "entry:7;", 0);
        Check.feedText(x, 0, tape);
        x.image(0);
        return x;
    }
}
