import java.math.BigInteger;
import java.util.ArrayList;
import java.util.Arrays;
import java.util.Collections;
import java.util.List;
import java.util.Map;
import java.util.TreeMap;
import java.util.TreeSet;
import java.util.regex.Matcher;
import java.util.regex.Pattern;

/** The document once more, as plainly and as slowly as its words go; ModelTest compares the class with it. */
final class Model {
    static final int NONE = -1;

    static final class P {
        int coins, children, since = NONE, room, fees, late, turns, escaped, concealed, bookSum;
        boolean held, out, surrendered;
        TreeSet<Integer> detainers = new TreeSet<>();
        Map<Integer, Integer> least = new TreeMap<>();
    }

    static final class D {
        int debtor, creditor, sum, rank, rate, since, told, state, principal, interest, last, costs, lack;
        int ended = NONE;
        boolean bought;
    }

    record Test(boolean not, String subject, char sign, int number) { }

    record Line(String topic, List<Test> tests, int value) { }

    record Act(int from, int told, List<Line> lines) { }

    static final class State {
        List<P> persons = new ArrayList<>();
        List<D> debts = new ArrayList<>();
        List<Act> acts = new ArrayList<>();
        List<Integer> tape = new ArrayList<>();
        List<Integer> row = new ArrayList<>();
        int fault, place = NONE, day, hour, feesPaid, bookRows;
    }

    State s = new State();
    final State[] images = new State[3];

    static final List<String> TOPICS =
        List.of("held", "entry", "daily", "walk", "number", "worth", "buyer", "keep", "opens");
    static final List<String> SUBJECTS =
        List.of("sum", "debts", "rank", "days", "children", "room", "hour", "coins");
    static final int[] DEFAULTS = {1, 0, 0, 0, 50, 75, 1, 0, 1};

    static State copy(State from) {
        State to = new State();
        for (P a : from.persons) {
            P b = new P();
            b.coins = a.coins; b.children = a.children; b.since = a.since; b.room = a.room; b.fees = a.fees;
            b.late = a.late; b.turns = a.turns; b.escaped = a.escaped; b.concealed = a.concealed; b.bookSum = a.bookSum;
            b.held = a.held; b.out = a.out; b.surrendered = a.surrendered;
            b.detainers.addAll(a.detainers);
            b.least.putAll(a.least);
            to.persons.add(b);
        }
        for (D a : from.debts) {
            D b = new D();
            b.debtor = a.debtor; b.creditor = a.creditor; b.sum = a.sum; b.rank = a.rank; b.rate = a.rate;
            b.since = a.since; b.told = a.told; b.state = a.state; b.principal = a.principal; b.interest = a.interest;
            b.last = a.last; b.costs = a.costs; b.lack = a.lack; b.ended = a.ended; b.bought = a.bought;
            to.debts.add(b);
        }
        to.acts.addAll(from.acts);
        to.tape.addAll(from.tape);
        to.row.addAll(from.row);
        to.fault = from.fault; to.place = from.place; to.day = from.day; to.hour = from.hour;
        to.feesPaid = from.feesPaid; to.bookRows = from.bookRows;
        return to;
    }

    boolean isP(int p) { return 0 <= p && p < s.persons.size(); }
    boolean isD(int d) { return 0 <= d && d < s.debts.size(); }
    boolean isLive(int d) { return isD(d) && s.debts.get(d).state == 0; }

    int interest(D d) {
        BigInteger grown = BigInteger.valueOf(d.principal).multiply(BigInteger.valueOf(d.rate))
            .multiply(BigInteger.valueOf(s.day - d.last)).divide(BigInteger.valueOf(360000));
        return grown.intValueExact() + d.interest;
    }

    int due(D d) { return d.state != 0 ? 0 : d.principal + d.costs + interest(d); }

    List<D> liveOf(int p) {
        List<D> list = new ArrayList<>();
        for (D d : s.debts) if (d.state == 0 && d.debtor == p) list.add(d);
        return list;
    }

    void takeOff(D d, int coins) {
        d.interest = interest(d);
        d.last = s.day;
        for (int i = 0; i < coins; i++) {
            if (d.costs > 0) d.costs--;
            else if (d.interest > 0) d.interest--;
            else d.principal--;
        }
        if (d.principal + d.interest + d.costs == 0) over(d, 1);
    }

    void over(D d, int how) { d.state = how; d.ended = s.day; }

    void sweep() {
        for (int p = 0; p < s.persons.size(); p++) {
            TreeSet<Integer> still = new TreeSet<>();
            for (D d : liveOf(p)) still.add(d.creditor);
            s.persons.get(p).detainers.retainAll(still);
        }
    }

    int person(int coins, int children) {
        if (s.persons.size() == 12 || coins < 0 || coins > 1000000 || children < 0 || children > 9) return NONE;
        P p = new P();
        p.coins = coins;
        p.children = children;
        s.persons.add(p);
        return s.persons.size() - 1;
    }

    int debt(int debtor, int creditor, int sum, int rank, int rate, int since) {
        if (s.debts.size() == 40 || !isP(debtor) || !isP(creditor) || debtor == creditor) return NONE;
        if (sum < 1 || sum > 100000 || rank < 0 || rank > 3 || rate < 0 || rate > 200 || since < 0 || since > s.day) return NONE;
        D d = new D();
        d.debtor = debtor; d.creditor = creditor; d.sum = sum; d.rank = rank; d.rate = rate; d.since = since;
        d.told = s.day; d.principal = sum; d.last = since;
        s.debts.add(d);
        return s.debts.size() - 1;
    }

    int costs(int debt, int coins) {
        if (!isLive(debt) || coins < 1 || coins > 10000) return NONE;
        s.debts.get(debt).costs += coins;
        return due(s.debts.get(debt));
    }

    int pay(int debt, int coins) {
        if (!isLive(debt) || coins < 1) return NONE;
        D d = s.debts.get(debt);
        if (coins > s.persons.get(d.debtor).coins || coins > due(d)) return NONE;
        s.persons.get(d.debtor).coins -= coins;
        s.persons.get(d.creditor).coins += coins;
        takeOff(d, coins);
        sweep();
        return due(d);
    }

    int about(int debt, int what) {
        if (!isD(debt) || what < 0 || what > 14) return -100;
        D d = s.debts.get(debt);
        boolean live = d.state == 0;
        int[] all = {d.debtor, d.creditor, d.sum, d.rank, d.rate, d.since, d.told, d.state, live ? d.principal : 0,
            live ? interest(d) : 0, live ? d.costs : 0, due(d), d.bought ? 1 : 0, d.lack, d.ended};
        return all[what];
    }

    /** Every ring there is, by going on from its least debt. */
    List<Integer> theRing() {
        for (int length = 2; length <= s.persons.size(); length++) {
            for (int first = 0; first < s.debts.size(); first++) {
                if (!isLive(first)) continue;
                List<Integer> found = goOn(new ArrayList<>(List.of(first)), length);
                if (found != null) return found;
            }
        }
        return List.of();
    }

    List<Integer> goOn(List<Integer> row, int length) {
        D last = s.debts.get(row.get(row.size() - 1));
        if (row.size() == length) return last.creditor == s.debts.get(row.get(0)).debtor ? new ArrayList<>(row) : null;
        next:
        for (int d = row.get(0) + 1; d < s.debts.size(); d++) {
            if (!isLive(d) || s.debts.get(d).debtor != last.creditor) continue;
            for (int e : row) if (s.debts.get(e).debtor == s.debts.get(d).debtor) continue next;
            row.add(d);
            List<Integer> found = goOn(row, length);
            if (found != null) return found;
            row.remove(row.size() - 1);
        }
        return null;
    }

    int ring() {
        s.row = theRing();
        return s.row.isEmpty() ? NONE : s.row.size();
    }

    int row(int k) { return 0 <= k && k < s.row.size() ? s.row.get(k) : NONE; }

    int net() {
        List<Integer> ring = theRing();
        s.row = ring;
        if (ring.isEmpty()) return NONE;
        List<Integer> dues = new ArrayList<>();
        for (int d : ring) dues.add(due(s.debts.get(d)));
        int least = Collections.min(dues);
        for (int d : ring) takeOff(s.debts.get(d), least);
        sweep();
        return least;
    }

    int feed(int... numbers) {
        if (s.tape.size() > 580) return NONE;
        for (int n : numbers) for (int i = 3; i >= 0; i--) s.tape.add(n >> 8 * i & 255);
        return s.tape.size();
    }

    int end(int n) {
        if (n < 0 || n > s.tape.size()) return NONE;
        s.tape = new ArrayList<>(s.tape.subList(0, n));
        return n;
    }

    int act(int from) {
        s.fault = 0;
        s.place = NONE;
        StringBuilder text = new StringBuilder();
        for (int b : s.tape) text.append((char) b);
        s.tape = new ArrayList<>();
        if (s.acts.size() == 4 || from < 0 || from > 9999) return -2;
        List<Line> lines = parse(text.toString());
        if (s.fault != 0) return NONE;
        s.acts.add(new Act(from, s.day, lines));
        return s.acts.size() - 1;
    }

    /** Tokens by a pattern; what may follow by a table of places in a line. */
    List<Line> parse(String text) {
        Matcher m = Pattern.compile("[a-z]+|[0-9]+|[:;<>=]|[^ \n]", Pattern.DOTALL).matcher(text);
        List<String> tokens = new ArrayList<>();
        List<Integer> at = new ArrayList<>();
        while (m.find()) {
            tokens.add(m.group());
            at.add(m.start());
        }
        tokens.add("");
        at.add(text.length());
        String where = "start";
        List<Line> lines = new ArrayList<>();
        String topic = "", subject = "";
        List<Test> tests = new ArrayList<>();
        boolean not = false;
        char sign = 0;
        int value = 0, soft = 0, softAt = NONE, testAt = 0;
        for (int i = 0; i < tokens.size(); i++) {
            String t = tokens.get(i);
            boolean number = t.matches("[0-9]{1,5}");
            String then = "";
            switch (where) {
                case "start":
                    if (t.isEmpty()) {
                        s.fault = soft;
                        s.place = softAt;
                        return lines;
                    }
                    if (TOPICS.contains(t)) {
                        then = "topic";
                        topic = t;
                        tests = new ArrayList<>();
                        if (lines.size() >= 20 && soft == 0) { soft = 3; softAt = at.get(i); }
                    }
                    break;
                case "topic": then = t.equals("if") ? "test" : t.equals(":") ? "value" : ""; not = false; break;
                case "test":
                case "not":
                    if (where.equals("test")) testAt = at.get(i);
                    if (where.equals("test") && t.equals("not")) { then = "not"; not = true; }
                    else if (SUBJECTS.contains(t)) { then = "sign"; subject = t; }
                    break;
                case "sign": if (t.equals("<") || t.equals(">") || t.equals("=")) { then = "number"; sign = t.charAt(0); } break;
                case "number":
                    if (number) {
                        then = "tested";
                        tests.add(new Test(not, subject, sign, Integer.parseInt(t)));
                        if (tests.size() > 4 && soft == 0) { soft = 3; softAt = testAt; }
                        not = false;
                    }
                    break;
                case "tested": then = t.equals("and") ? "test" : t.equals(":") ? "value" : ""; break;
                case "value":
                    if (number || t.equals("yes") || t.equals("no")) {
                        then = "told";
                        value = number ? Integer.parseInt(t) : t.equals("yes") ? 1 : 0;
                        if (value > 100 && List.of("number", "worth", "keep").contains(topic) && soft == 0) {
                            soft = 2;
                            softAt = at.get(i);
                        }
                    }
                    break;
                default:
                    if (t.equals(";")) { then = "start"; lines.add(new Line(topic, tests, value)); }
                    break;
            }
            if (then.isEmpty()) {
                s.fault = 1;
                s.place = at.get(i);
                return lines;
            }
            where = then;
        }
        return lines;
    }

    int fault(int what) { return what == 0 ? s.fault : what == 1 ? s.place : NONE; }

    static boolean isDay(int d) { return 0 <= d && d <= 9999; }

    int good(int d, int k) {
        int best = NONE;
        if (isDay(d) && isDay(k)) {
            for (int a = 0; a < s.acts.size(); a++) if (s.acts.get(a).told <= k && s.acts.get(a).from <= d) best = a;
        }
        return best;
    }

    Map<String, Integer> facts(int p) {
        P q = s.persons.get(p);
        int sum = 0, rank = 9;
        for (D d : liveOf(p)) { sum += due(d); rank = Math.min(rank, d.rank); }
        Map<String, Integer> f = new TreeMap<>();
        f.put("sum", sum);
        f.put("debts", liveOf(p).size());
        f.put("rank", rank);
        f.put("days", q.held ? s.day - q.since : 0);
        f.put("children", q.children);
        f.put("room", q.held ? q.room : 0);
        f.put("hour", s.hour);
        f.put("coins", q.coins);
        return f;
    }

    int told(int act, int topic, Map<String, Integer> facts) {
        if (act != NONE) {
            for (Line line : s.acts.get(act).lines) {
                if (!line.topic.equals(TOPICS.get(topic))) continue;
                boolean all = true;
                for (Test t : line.tests) {
                    int c = Integer.compare(facts.get(t.subject), t.number);
                    boolean so = t.sign == '<' ? c < 0 : t.sign == '>' ? c > 0 : c == 0;
                    all &= so ^ t.not;
                }
                if (all) return line.value;
            }
        }
        return DEFAULTS[topic];
    }

    int nowTells(int p, String topic) { return told(good(s.day, s.day), TOPICS.indexOf(topic), facts(p)); }

    int tells(int person, int topic, int act) {
        if (!isP(person) || topic < 0 || topic > 8 || act < -1 || act >= s.acts.size()) return NONE;
        return told(act == NONE ? good(s.day, s.day) : act, topic, facts(person));
    }

    boolean lawful(int person, int d, int k) {
        if (!isP(person) || !isDay(d) || !isDay(k)) return false;
        int sum = 0, n = 0, rank = 9;
        for (D x : s.debts) {
            if (x.debtor != person || x.since > d || x.told > k) continue;
            if (x.ended != NONE && x.ended <= d && x.ended <= k) continue;
            sum += x.sum;
            n++;
            rank = Math.min(rank, x.rank);
        }
        Map<String, Integer> f = new TreeMap<>();
        f.put("sum", sum); f.put("debts", n); f.put("rank", rank); f.put("days", 0); f.put("room", 0); f.put("hour", 0);
        f.put("children", s.persons.get(person).children);
        f.put("coins", s.persons.get(person).coins);
        return n > 0 && told(good(d, k), 0, f) != 0;
    }

    boolean hold(int creditor, int debtor) {
        if (!isP(creditor) || !isP(debtor)) return false;
        boolean owed = false;
        for (D d : liveOf(debtor)) owed |= d.creditor == creditor;
        P p = s.persons.get(debtor);
        if (!owed || p.detainers.contains(creditor) || nowTells(debtor, "held") == 0) return false;
        if (!p.held) {
            p.fees = nowTells(debtor, "entry");
            p.held = true;
            p.since = s.day;
            p.room = 0;
        }
        p.detainers.add(creditor);
        return true;
    }

    boolean tire(int creditor, int debtor) {
        return isP(creditor) && isP(debtor) && s.persons.get(debtor).detainers.remove(creditor);
    }

    static void goesOut(P p) {
        p.held = false;
        p.out = false;
        p.since = NONE;
        p.fees = 0;
        p.detainers.clear();
    }

    boolean leave(int person) {
        if (!isP(person)) return false;
        P p = s.persons.get(person);
        if (!p.held || !p.detainers.isEmpty() || p.out || p.coins < p.fees) return false;
        p.coins -= p.fees;
        s.feesPaid += p.fees;
        goesOut(p);
        return true;
    }

    boolean room(int person, int room) {
        if (!isP(person) || !s.persons.get(person).held || room < 0 || room > 3) return false;
        s.persons.get(person).room = room;
        return true;
    }

    boolean walk(int person, boolean out) {
        if (!isP(person) || !s.persons.get(person).held || s.persons.get(person).out == out) return false;
        if (out && nowTells(person, "walk") == 0) return false;
        s.persons.get(person).out = out;
        return true;
    }

    int hour() {
        if (s.hour == 23) return NONE;
        for (int p = 0; p < s.persons.size(); p++) {
            if (s.persons.get(p).out && nowTells(p, "walk") == 0) s.persons.get(p).late++;
        }
        return ++s.hour;
    }

    int day() {
        if (s.day == 9999) return NONE;
        if (turn() != NONE) s.persons.get(turn()).turns++;
        for (int i = 0; i < s.persons.size(); i++) {
            P p = s.persons.get(i);
            if (p.held && !p.out) p.fees += nowTells(i, "daily");
        }
        for (P p : s.persons) {
            if (p.held && p.out) {
                p.escaped++;
                goesOut(p);
            }
        }
        s.hour = 0;
        return ++s.day;
    }

    int turn() {
        List<Integer> held = new ArrayList<>();
        for (int i = 0; i < s.persons.size(); i++) if (s.persons.get(i).held) held.add(i);
        held.sort((a, b) -> {
            P p = s.persons.get(a), q = s.persons.get(b);
            return p.turns != q.turns ? p.turns - q.turns : p.since != q.since ? p.since - q.since : a - b;
        });
        return held.isEmpty() ? NONE : held.get(0);
    }

    int alms(int coins) {
        if (turn() == NONE || coins < 1 || coins > 10000) return NONE;
        s.persons.get(turn()).coins += coins;
        return turn();
    }

    int tell(int person, int what) {
        if (!isP(person) || what < 0 || what > 14) return -100;
        P p = s.persons.get(person);
        int bits = 0, by = 0, to = 0;
        for (int c : p.detainers) bits |= 1 << c;
        for (D d : s.debts) {
            by += d.debtor == person ? due(d) : 0;
            to += d.creditor == person ? due(d) : 0;
        }
        int[] all = {p.coins, p.children, p.held ? 1 : 0, p.since, p.held ? p.room : NONE, p.fees, p.out ? 1 : 0, p.late,
            p.turns, p.escaped, bits, by, to, p.surrendered ? 1 : 0, p.concealed};
        return all[what];
    }

    boolean least(int creditor, int debtor, int thousandths) {
        if (!isP(creditor) || !isP(debtor) || creditor == debtor || thousandths < 0 || thousandths > 1000) return false;
        s.persons.get(creditor).least.put(debtor, thousandths);
        return true;
    }

    int leastOf(int creditor, int debtor) { return s.persons.get(creditor).least.getOrDefault(debtor, 1000); }

    boolean binds(int debtor, int r) {
        if (!isP(debtor) || r < 0 || r > 1000) return false;
        boolean counts = nowTells(debtor, "buyer") != 0;
        Map<Integer, Integer> worth = new TreeMap<>();
        for (D d : liveOf(debtor)) if (counts || !d.bought) worth.merge(d.creditor, due(d), Integer::sum);
        long all = 0, signed = 0;
        int signers = 0;
        for (Map.Entry<Integer, Integer> e : worth.entrySet()) {
            all += e.getValue();
            if (leastOf(e.getKey(), debtor) <= r) {
                signed += e.getValue();
                signers++;
            }
        }
        return !worth.isEmpty() && 100 * signers >= nowTells(debtor, "number") * worth.size()
            && 100 * signed >= nowTells(debtor, "worth") * all;
    }

    int offer(int debtor) {
        for (int r = 0; r <= 1000; r++) if (binds(debtor, r)) return r;
        return NONE;
    }

    int compose(int debtor, int r) {
        if (!binds(debtor, r)) return NONE;
        int all = 0;
        for (D d : liveOf(debtor)) all += (int) ((long) due(d) * r / 1000);
        if (all > s.persons.get(debtor).coins) return NONE;
        for (D d : liveOf(debtor)) {
            int part = (int) ((long) due(d) * r / 1000);
            s.persons.get(debtor).coins -= part;
            s.persons.get(d.creditor).coins += part;
            over(d, part < due(d) ? 2 : 1);
        }
        sweep();
        return all;
    }

    boolean buy(int debt, int buyer, int price) {
        if (!isLive(debt) || !isP(buyer) || price < 0 || price > 100000) return false;
        D d = s.debts.get(debt);
        if (buyer == d.debtor || buyer == d.creditor || s.persons.get(buyer).coins < price) return false;
        s.persons.get(buyer).coins -= price;
        s.persons.get(d.creditor).coins += price;
        d.creditor = buyer;
        d.bought = true;
        sweep();
        return true;
    }

    /** Each set is really bought, in a copy, and the offer put to the vote. */
    int swing(int debtor, int friend, int r, int what) {
        if (!isP(debtor) || !isP(friend) || debtor == friend || r < 0 || r > 1000 || what < 0 || what > 1) return NONE;
        List<Integer> row = new ArrayList<>();
        for (int d = 0; d < s.debts.size(); d++) {
            if (isLive(d) && s.debts.get(d).debtor == debtor && s.debts.get(d).creditor != friend && row.size() < 10) row.add(d);
        }
        long best = Long.MAX_VALUE;
        int set = NONE;
        State was = s;
        for (int bits = 0; bits < 1 << row.size(); bits++) {
            long price = 0;
            s = copy(was);
            for (int i = 0; i < row.size(); i++) {
                if ((bits >> i & 1) == 0) continue;
                D d = s.debts.get(row.get(i));
                price += (long) due(d) * leastOf(d.creditor, debtor) / 1000;
                d.creditor = friend;
                d.bought = true;
            }
            s.persons.get(friend).least.put(debtor, 0);
            if (price < best && binds(debtor, r)) {
                best = price;
                set = bits;
            }
        }
        s = was;
        return set == NONE ? NONE : what == 0 ? (int) best : set;
    }

    /** What each claim gets, by fractions sorted. */
    int[] part(List<D> debts, int[] claims, int coins) {
        int[] shares = new int[claims.length];
        BigInteger left = BigInteger.valueOf(coins);
        for (int rank = 0; rank < 4; rank++) {
            List<Integer> in = new ArrayList<>();
            BigInteger all = BigInteger.ZERO;
            for (int i = 0; i < claims.length; i++) {
                if (debts.get(i).rank == rank && claims[i] > 0) {
                    in.add(i);
                    all = all.add(BigInteger.valueOf(claims[i]));
                }
            }
            if (left.compareTo(all) >= 0) {
                for (int i : in) shares[i] = claims[i];
                left = left.subtract(all);
                continue;
            }
            BigInteger over = left;
            BigInteger[] rests = new BigInteger[claims.length];
            for (int i : in) {
                BigInteger[] parts = BigInteger.valueOf(claims[i]).multiply(left).divideAndRemainder(all);
                shares[i] = parts[0].intValueExact();
                rests[i] = parts[1];
                over = over.subtract(parts[0]);
            }
            in.sort((a, b) -> rests[b].compareTo(rests[a]) != 0 ? rests[b].compareTo(rests[a]) : a - b);
            for (int i = 0; i < over.intValueExact(); i++) shares[in.get(i)]++;
            left = BigInteger.ZERO;
        }
        return shares;
    }

    int surrender(int person) {
        if (!isP(person) || liveOf(person).isEmpty()) return NONE;
        P p = s.persons.get(person);
        List<D> debts = liveOf(person);
        int[] claims = new int[debts.size()];
        for (int i = 0; i < claims.length; i++) claims[i] = due(debts.get(i));
        int kept = (int) ((long) p.coins * nowTells(person, "keep") / 100);
        int[] shares = part(debts, claims, p.coins - kept);
        for (int i = 0; i < claims.length; i++) {
            D d = debts.get(i);
            p.coins -= shares[i];
            s.persons.get(d.creditor).coins += shares[i];
            d.lack = claims[i] - shares[i];
            over(d, d.lack > 0 ? 3 : 1);
        }
        p.surrendered = true;
        sweep();
        return Arrays.stream(shares).sum();
    }

    int found(int person, int coins) {
        if (!isP(person) || coins < 1 || coins > 1000000) return NONE;
        P p = s.persons.get(person);
        List<D> debts = new ArrayList<>();
        for (D d : s.debts) if (d.debtor == person && d.lack > 0) debts.add(d);
        if (!p.surrendered || debts.isEmpty() || nowTells(person, "opens") == 0) {
            p.coins += coins;
            return 0;
        }
        int[] claims = new int[debts.size()];
        for (int i = 0; i < claims.length; i++) claims[i] = debts.get(i).lack;
        int[] shares = part(debts, claims, coins);
        int all = Arrays.stream(shares).sum();
        for (int i = 0; i < claims.length; i++) {
            debts.get(i).lack -= shares[i];
            s.persons.get(debts.get(i).creditor).coins += shares[i];
        }
        p.coins += coins - all;
        return all;
    }

    int book(int person, int coins) {
        if (!isP(person) || s.bookRows == 60 || coins == 0 || coins < -100000 || coins > 100000) return NONE;
        s.bookRows++;
        P p = s.persons.get(person);
        p.bookSum += coins;
        if (-p.bookSum > p.concealed) p.concealed = -p.bookSum;
        return p.concealed;
    }

    private int bestCount, bestSet;
    private long bestPurse;

    /** Every order in which they might be freed, with the coins really moved. */
    int free(int purse, int what) {
        if (purse < 0 || purse > 1000000 || what < 0 || what > 2) return NONE;
        List<Integer> held = new ArrayList<>();
        long[] coins = new long[12];
        for (int i = 0; i < s.persons.size(); i++) {
            coins[i] = s.persons.get(i).coins;
            if (s.persons.get(i).held && held.size() < 8) held.add(i);
        }
        bestCount = 0;
        bestSet = 0;
        bestPurse = 0;
        freeOn(held, 0, coins, purse, 0);
        return what == 0 ? bestCount : what == 1 ? bestSet : (int) bestPurse;
    }

    private void freeOn(List<Integer> held, int set, long[] coins, int purse, long used) {
        int count = Integer.bitCount(set);
        if (count > bestCount || count == bestCount && (used < bestPurse || used == bestPurse && set < bestSet)) {
            bestCount = count;
            bestSet = set;
            bestPurse = used;
        }
        for (int p : held) {
            if ((set >> p & 1) != 0) continue;
            long needs = s.persons.get(p).fees;
            long[] then = coins.clone();
            for (D d : liveOf(p)) {
                needs += due(d);
                then[d.creditor] += due(d);
            }
            long lacks = Math.max(0, needs - coins[p]);
            then[p] = coins[p] + lacks - needs;
            if (used + lacks <= purse) freeOn(held, set | 1 << p, then, purse, used + lacks);
        }
    }

    int count(int what) {
        int live = 0, held = 0, coins = 0, due = 0;
        for (D d : s.debts) {
            live += d.state == 0 ? 1 : 0;
            due += due(d);
        }
        for (P p : s.persons) {
            held += p.held ? 1 : 0;
            coins += p.coins;
        }
        int[] all = {s.persons.size(), s.debts.size(), live, s.acts.size(), s.day, s.hour, held, s.row.size(), s.feesPaid,
            coins, due, s.bookRows};
        return 0 <= what && what < all.length ? all[what] : NONE;
    }

    boolean image(int k) {
        if (k < 0 || k > 2) return false;
        images[k] = copy(s);
        return true;
    }

    boolean again(int k) {
        if (k < 0 || k > 2 || images[k] == null) return false;
        s = copy(images[k]);
        return true;
    }
}
