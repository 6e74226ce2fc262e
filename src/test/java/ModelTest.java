import java.util.ArrayList;
import java.util.Collections;
import java.util.List;
import java.util.Random;

/** Runs of 512 chance calls, the same each time, on the class and on Model: every answer is compared. */
public final class ModelTest {
    private static final int RUNS = 3000;
    private static final int LAST_CALL = 512;
    /** Behind this call the house is only looked at. */
    private static final int LAST_DEED = 400;

    private static final Check check = new Check();

    private final Random dice;
    private final DebtorsHouse x = new DebtorsHouse();
    private final Model m = new Model();
    private final boolean wild;
    private final int seed;
    private int calls = 0;

    private ModelTest(int seed) {
        this.seed = seed;
        dice = new Random(seed);
        wild = seed % 5 == 0;
    }

    public static void main(String[] args) {
        for (int seed = 1; seed <= RUNS; seed++) {
            new ModelTest(seed).run();
        }
        for (int seed = 1; seed <= RUNS; seed++) {
            new ModelTest(seed).runOfRings();
            new ModelTest(seed).runOfVotes();
        }
        check.finish();
    }

    private void run() {
        int persons = 2 + dice.nextInt(seed % 40 == 0 ? 11 : 6);
        for (int i = 0; i < persons; i++) {
            int coins = dice.nextInt(3) == 0 ? dice.nextInt(50000) : dice.nextInt(400);
            int children = dice.nextInt(10);
            due("person", x.person(coins, children), m.person(coins, children));
        }
        while (calls < LAST_DEED) {
            oneCall();
            look();
            look();
        }
        lookUpToTheLastCall();
    }

    /** Few debts among many persons, so that rings are long, and several of a length. */
    private void runOfRings() {
        for (int i = 0; i < 12; i++) {
            due("person", x.person(0, 0), m.person(0, 0));
        }
        int debts = 12 + dice.nextInt(29);
        for (int i = 0; i < debts; i++) {
            int a = dice.nextInt(12), b = dice.nextInt(4) == 0 ? dice.nextInt(12) : (a + 1 + dice.nextInt(2)) % 12;
            int sum = 1 + dice.nextInt(20), rate = dice.nextInt(201);
            due("debt", x.debt(a, b, sum, 0, rate, 0), m.debt(a, b, sum, 0, rate, 0));
        }
        due("day", x.day(), m.day());
        for (int i = 0; i < 8; i++) {
            due("ring", x.ring(), m.ring());
            rows();
            due("net", x.net(), m.net());
            rows();
        }
        lookUpToTheLastCall();
    }

    /** One debtor with many creditors, a friend, and acts that change who counts. */
    private void runOfVotes() {
        int persons = 3 + dice.nextInt(8), friend = persons - 1;
        for (int i = 0; i < persons; i++) {
            due("person", x.person(1000, 0), m.person(1000, 0));
        }
        int debts = 1 + dice.nextInt(12);
        for (int i = 0; i < debts; i++) {
            int creditor = 1 + dice.nextInt(persons - 1), sum = 1 + dice.nextInt(90);
            due("debt", x.debt(0, creditor, sum, 0, 0, 0), m.debt(0, creditor, sum, 0, 0, 0));
            int least = dice.nextInt(11) * 100;
            due("least", x.least(creditor, 0, least), m.least(creditor, 0, least));
        }
        for (int i = 0; i < 2; i++) {
            int debt = dice.nextInt(debts), buyer = 1 + dice.nextInt(persons - 1);
            due("buy", x.buy(debt, buyer, 1), m.buy(debt, buyer, 1));
        }
        for (int i = 0; i < 3; i++) {
            int r = dice.nextInt(11) * 100;
            for (int what = 0; what <= 1; what++) {
                due("swing", x.swing(0, friend, r, what), m.swing(0, friend, r, what));
            }
            due("binds", x.binds(0, r), m.binds(0, r));
            due("offer", x.offer(0), m.offer(0));
            takeText("number:" + dice.nextInt(101) + ";worth:" + dice.nextInt(101) + ";buyer:" + dice.nextInt(2) + ";", 0);
        }
        lookUpToTheLastCall();
    }

    /** One row for each call, so that no house is called more often than the document has it. */
    private void due(String call, long got, long want) {
        calls++;
        check.due("seed " + seed + ": call " + calls + ": " + call, got, want);
    }

    private void due(String call, boolean got, boolean want) {
        due(call, got ? 1 : 0, want ? 1 : 0);
    }

    private int upTo(int n) {
        return wild && dice.nextInt(12) == 0 ? dice.nextInt(5) - 2 + (dice.nextBoolean() ? n : 0) : dice.nextInt(n);
    }

    private int person() {
        return upTo(Math.max(1, m.s.persons.size()));
    }

    private int debt() {
        return upTo(Math.max(1, m.s.debts.size()));
    }

    private int coins() {
        return dice.nextInt(4) == 0 ? upTo(12000) : 1 + upTo(300);
    }

    private int r() {
        return dice.nextInt(3) == 0 ? upTo(5) * 250 : upTo(1001);
    }

    private void oneCall() {
        int kind = dice.nextInt(100);
        if (kind < 26) {
            debtCall(dice.nextInt(9));
        } else if (kind < 44) {
            houseCall(dice.nextInt(10));
        } else if (kind < 58) {
            timeCall(dice.nextInt(8));
        } else if (kind < 75) {
            voteCall(dice.nextInt(9));
        } else if (kind < 86) {
            estateCall(dice.nextInt(8));
        } else if (kind < 95) {
            actCall(dice.nextInt(6));
        } else {
            imageCall(dice.nextInt(5));
        }
    }

    private void debtCall(int which) {
        int a = person(), b = person(), d = debt(), c = coins();
        switch (which) {
            case 0: case 1: case 2: case 3: {
                int sum = 1 + upTo(dice.nextInt(4) == 0 ? 100000 : 500), rank = upTo(4), rate = upTo(201);
                int since = upTo(m.s.day + 1);
                due("debt", x.debt(a, b, sum, rank, rate, since), m.debt(a, b, sum, rank, rate, since));
                break;
            }
            case 4: due("costs", x.costs(d, c), m.costs(d, c)); break;
            case 5: due("pay", x.pay(d, c), m.pay(d, c)); break;
            case 6: {
                int all = m.about(d, 11);
                due("pay all", x.pay(d, all), m.pay(d, all));
                break;
            }
            case 7: due("ring", x.ring(), m.ring()); break;
            default: due("net", x.net(), m.net()); break;
        }
    }

    private void houseCall(int which) {
        int a = person(), b = person();
        switch (which) {
            case 0: case 1: case 2: case 3: {
                if (m.s.debts.isEmpty()) {
                    break;
                }
                Model.D d = m.s.debts.get(dice.nextInt(m.s.debts.size()));
                due("hold", x.hold(d.creditor, d.debtor), m.hold(d.creditor, d.debtor));
                break;
            }
            case 4: due("hold any", x.hold(a, b), m.hold(a, b)); break;
            case 5: due("tire", x.tire(a, b), m.tire(a, b)); break;
            case 6: due("leave", x.leave(a), m.leave(a)); break;
            case 7: {
                int room = upTo(4);
                due("room", x.room(a, room), m.room(a, room));
                break;
            }
            case 8: due("walk out", x.walk(a, true), m.walk(a, true)); break;
            default: due("walk back", x.walk(a, false), m.walk(a, false)); break;
        }
    }

    private void timeCall(int which) {
        int c = coins();
        switch (which) {
            case 0: case 1: case 2: due("hour", x.hour(), m.hour()); break;
            case 3: case 4: due("day", x.day(), m.day()); break;
            case 5: due("turn", x.turn(), m.turn()); break;
            case 6: due("alms", x.alms(c), m.alms(c)); break;
            default:
                for (int i = dice.nextInt(40); i > 0; i--) {
                    due("days", x.day(), m.day());
                }
                break;
        }
    }

    private void voteCall(int which) {
        int a = person(), b = person(), r = r(), d = debt();
        switch (which) {
            case 0: case 1: case 2: due("least", x.least(a, b, r), m.least(a, b, r)); break;
            case 3: due("binds", x.binds(a, r), m.binds(a, r)); break;
            case 4: due("offer", x.offer(a), m.offer(a)); break;
            case 5: {
                int best = dice.nextBoolean() ? m.offer(a) : r;
                due("compose", x.compose(a, best), m.compose(a, best));
                break;
            }
            case 6: case 7: {
                int price = upTo(dice.nextInt(3) == 0 ? 100001 : 50);
                due("buy", x.buy(d, b, price), m.buy(d, b, price));
                break;
            }
            default:
                if (dice.nextInt(4) == 0) {
                    due("swing costs", x.swing(a, b, r, 0), m.swing(a, b, r, 0));
                    due("swing set", x.swing(a, b, r, 1), m.swing(a, b, r, 1));
                }
                break;
        }
    }

    private void estateCall(int which) {
        int a = person(), c = coins();
        switch (which) {
            case 0: due("surrender", x.surrender(a), m.surrender(a)); break;
            case 1: case 2: due("found", x.found(a, c), m.found(a, c)); break;
            case 3: case 4: {
                int sum = dice.nextInt(401) - 200;
                due("book", x.book(a, sum), m.book(a, sum));
                break;
            }
            default: {
                int purse = upTo(dice.nextInt(3) == 0 ? 1000001 : 2000);
                if (m.count(6) <= 6 || dice.nextInt(40) == 0) {
                    for (int what = 0; what <= 2; what++) {
                        due("free " + what, x.free(purse, what), m.free(purse, what));
                    }
                }
                break;
            }
        }
    }

    private void actCall(int which) {
        int a = person(), d = upTo(m.s.day + 4), k = upTo(m.s.day + 4);
        switch (which) {
            case 0: case 1: takeText(); break;
            case 2: due("good", x.good(d, k), m.good(d, k)); break;
            case 3: case 4: due("lawful", x.lawful(a, d, k), m.lawful(a, d, k)); break;
            default: {
                int n = upTo(m.s.tape.size() + 2);
                due("end", x.end(n), m.end(n));
                break;
            }
        }
    }

    private void takeText() {
        String text = text();
        if (dice.nextInt(20) == 0) {
            feed(text);
        } else {
            takeText(text, upTo(m.s.day + 3));
        }
    }

    private void feed(String text) {
        for (int i = 0; i < text.length(); i += 20) {
            int[] f = new int[5];
            for (int j = 0; j < 5; j++) {
                f[j] = Check.four(text, i + 4 * j);
            }
            due("feed", x.feed(f[0], f[1], f[2], f[3], f[4]), m.feed(f));
        }
    }

    private void takeText(String text, int from) {
        feed(text);
        int n = dice.nextInt(8) == 0 ? text.length() / 2 : text.length();
        due("end of '" + text + "'", x.end(n), m.end(n));
        due("act of '" + text + "'", x.act(from), m.act(from));
    }

    private String text() {
        StringBuilder b = new StringBuilder();
        int lines = dice.nextInt(10) == 0 ? 18 + dice.nextInt(5) : dice.nextInt(9);
        for (int i = 0; i < lines; i++) {
            b.append(gap(3));
            b.append(lines > 15 ? "walk" : Model.TOPICS.get(dice.nextInt(9)));
            int tests = lines > 15 ? 0 : dice.nextInt(dice.nextInt(15) == 0 ? 7 : 3);
            for (int t = 0; t < tests; t++) {
                b.append(t == 0 ? " if " : " and ").append(dice.nextInt(3) == 0 ? "not " : "");
                b.append(Model.SUBJECTS.get(dice.nextInt(8))).append(gap(9)).append("<>=".charAt(dice.nextInt(3)));
                b.append(gap(9)).append(dice.nextInt(new int[] {2, 5, 24, 500}[dice.nextInt(4)]));
            }
            b.append(gap(9)).append(':').append(gap(9));
            int told = dice.nextInt(30);
            b.append(told < 8 ? "yes" : told < 14 ? "no" : "" + dice.nextInt(told == 29 ? 120 : 101)).append(gap(9)).append(';');
        }
        if (dice.nextInt(4) == 0 && b.length() > 0) {
            b.setCharAt(dice.nextInt(b.length()), "ai:;<>=19 \n,Z\u00e9".charAt(dice.nextInt(14)));
        }
        if (dice.nextInt(8) == 0 && b.length() > 0) {
            int at = dice.nextInt(b.length());
            b.insert(at, new String[] {"not ", "12345", "if ", ":", " and ", "yes"}[dice.nextInt(6)]);
        }
        return b.length() > 600 ? b.substring(0, 600) : b.toString();
    }

    private String gap(int rare) {
        return dice.nextInt(rare) == 0 ? dice.nextBoolean() ? " " : "\n " : "";
    }

    private void imageCall(int which) {
        int k = upTo(3);
        if (which < 4) {
            due("image", x.image(k), m.image(k));
        } else {
            due("again", x.again(k), m.again(k));
        }
    }

    private void rows() {
        for (int k = 0; k <= m.s.row.size(); k++) {
            lookAt(3, k, 0, 0);
        }
    }

    private void look() {
        lookAt(dice.nextInt(6), dice.nextInt(13) - 1, dice.nextInt(17) - 1, dice.nextInt(7) - 2);
    }

    private void lookAt(int kind, int a, int b, int c) {
        switch (kind) {
            case 0: due("count(" + b + ")", x.count(b), m.count(b)); break;
            case 1: due("tell(" + a + ", " + b + ")", x.tell(a, b), m.tell(a, b)); break;
            case 2: due("about(" + a + ", " + b + ")", x.about(a, b), m.about(a, b)); break;
            case 3: due("row(" + a + ")", x.row(a), m.row(a)); break;
            case 4: due("fault(" + c + ")", x.fault(c), m.fault(c)); break;
            default: due("tells(" + a + ", " + b + ", " + c + ")", x.tells(a, b, c), m.tells(a, b, c)); break;
        }
    }

    /** In an order of chance, as many as there is room for. */
    private void lookUpToTheLastCall() {
        List<int[]> looks = new ArrayList<>();
        for (int b = -1; b <= 15; b++) {
            looks.add(new int[] {0, 0, b, 0});
            for (int a = -1; a <= 40; a++) {
                if (a <= m.s.persons.size()) {
                    looks.add(new int[] {1, a, b, 0});
                }
                if (a <= m.s.debts.size()) {
                    looks.add(new int[] {2, a, b, 0});
                }
            }
        }
        for (int a = -1; a <= 12; a++) {
            looks.add(new int[] {3, a, 0, 0});
            looks.add(new int[] {4, 0, 0, a % 3});
            looks.add(new int[] {5, a, dice.nextInt(9), dice.nextInt(5) - 1});
        }
        Collections.shuffle(looks, dice);
        for (int i = 0; i < looks.size() && calls < LAST_CALL; i++) {
            int[] look = looks.get(i);
            lookAt(look[0], look[1], look[2], look[3]);
        }
    }
}
