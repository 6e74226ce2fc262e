/**
 * A house in which debtors are held, with their debts, the acts that bind them, and the ways out.
 * The document (DOC.md) says what each call answers; its words in capitals are used here as they stand.
 */
public final class DebtorsHouse {
    public static final int NONE = -1;

    private static final int NO_SUCH = -100;
    private static final int NOT_READ = -2;

    private static final int MOST_PERSONS = 12;
    private static final int MOST_DEBTS = 40;
    private static final int MOST_ACTS = 4;
    private static final int MOST_IMAGES = 3;
    private static final int MOST_BYTES = 600;
    private static final int MOST_BOOK_ROWS = 60;
    private static final int MOST_LINES = 20;
    private static final int MOST_TESTS = 4;
    private static final int MOST_SWING_DEBTS = 10;
    private static final int MOST_FREED = 8;

    private static final int MOST_COINS = 1000000;
    private static final int MOST_SUM = 100000;
    private static final int MOST_COSTS = 10000;
    private static final int MOST_ALMS = 10000;
    private static final int MOST_RATE = 200;
    private static final int MOST_CHILDREN = 9;
    private static final int LAST_RANK = 3;
    private static final int LAST_ROOM = 3;
    private static final int LAST_DAY = 9999;
    private static final int LAST_HOUR = 23;
    private static final int WHOLE = 1000;

    private static final int LIVE = 0;
    private static final int PAID = 1;
    private static final int FORGIVEN = 2;
    private static final int RELEASED = 3;

    private static final int HELD = 0;
    private static final int ENTRY = 1;
    private static final int DAILY = 2;
    private static final int WALK = 3;
    private static final int NUMBER = 4;
    private static final int WORTH = 5;
    private static final int BUYER = 6;
    private static final int KEEP = 7;
    private static final int OPENS = 8;
    private static final int TOPICS = 9;

    private final House now = new House();
    private final House[] images = new House[MOST_IMAGES];
    private final Law law = new Law();
    private final Reader reader = new Reader();
    private final Rings rings = new Rings();
    private final Vote vote = new Vote();
    private final Swing swings = new Swing();
    private final Parting parting = new Parting();
    private final Freeing freeing = new Freeing();

    public DebtorsHouse() {
    }

    public int person(int coins, int children) {
        if (now.people.size >= MOST_PERSONS || outside(coins, 0, MOST_COINS) || outside(children, 0, MOST_CHILDREN)) {
            return NONE;
        }
        return now.people.add(coins, children);
    }

    public int debt(int debtor, int creditor, int sum, int rank, int rate, int since) {
        if (now.debts.size >= MOST_DEBTS || !areTwo(debtor, creditor)) {
            return NONE;
        }
        if (outside(sum, 1, MOST_SUM) || outside(rank, 0, LAST_RANK)
                || outside(rate, 0, MOST_RATE) || outside(since, 0, now.day)) {
            return NONE;
        }
        int debt = now.debts.add(debtor, creditor, sum, now.day);
        now.debts.setTerms(debt, rank, rate, since);
        return debt;
    }

    public int costs(int debt, int coins) {
        if (!now.debts.isLive(debt) || outside(coins, 1, MOST_COSTS)) {
            return NONE;
        }
        now.debts.costs[debt] += coins;
        return now.debts.due(debt, now.day);
    }

    public int pay(int debt, int coins) {
        if (!now.debts.isLive(debt) || coins < 1 || coins > now.debts.due(debt, now.day)) {
            return NONE;
        }
        int debtor = now.debts.debtor[debt];
        if (coins > now.people.coins[debtor]) {
            return NONE;
        }
        now.moveCoins(debtor, now.debts.creditor[debt], coins);
        now.debts.takeOff(debt, coins, now.day);
        now.dropIdleDetainers();
        return now.debts.due(debt, now.day);
    }

    public int about(int debt, int what) {
        if (!now.debts.has(debt)) {
            return NO_SUCH;
        }
        return what < 8 ? now.debts.termOf(debt, what) : now.debts.standOf(debt, what, now.day);
    }

    public int ring() {
        now.rowLength = rings.find(now.debts, now.row);
        return now.rowLength > 0 ? now.rowLength : NONE;
    }

    public int row(int k) {
        return k >= 0 && k < now.rowLength && k < now.row.length ? now.row[k] : NONE;
    }

    public int net() {
        if (ring() == NONE) {
            return NONE;
        }
        int least = now.debts.due(now.row[0], now.day);
        for (int i = 1; i < now.rowLength; i++) {
            least = Math.min(least, now.debts.due(now.row[i], now.day));
        }
        for (int i = 0; i < now.rowLength; i++) {
            now.debts.takeOff(now.row[i], least, now.day);
        }
        now.dropIdleDetainers();
        return least;
    }

    public int feed(int a, int b, int c, int d, int e) {
        if (now.tapeLength + 20 > MOST_BYTES) {
            return NONE;
        }
        now.feedFour(a);
        now.feedFour(b);
        now.feedFour(c);
        now.feedFour(d);
        now.feedFour(e);
        return now.tapeLength;
    }

    public int end(int n) {
        if (outside(n, 0, now.tapeLength)) {
            return NONE;
        }
        now.tapeLength = n;
        return n;
    }

    public int act(int from) {
        now.fault = 0;
        now.faultPlace = NONE;
        int length = now.tapeLength;
        // The tape is taken even where no text is read from it.
        now.tapeLength = 0;
        if (now.actCount >= MOST_ACTS || outside(from, 0, LAST_DAY)) {
            return NOT_READ;
        }
        reader.read(now.tape, length);
        now.fault = reader.fault;
        now.faultPlace = reader.faultPlace;
        if (now.fault != 0) {
            return NONE;
        }
        int act = now.actCount;
        now.acts[act] = new Act(from, now.day, reader.lines, reader.lineCount);
        now.actCount++;
        return act;
    }

    public int fault(int what) {
        switch (what) {
            case 0: return now.fault;
            case 1: return now.faultPlace;
            default: return NONE;
        }
    }

    public int good(int d, int k) {
        if (outside(d, 0, LAST_DAY) || outside(k, 0, LAST_DAY)) {
            return NONE;
        }
        return now.goodAct(d, k);
    }

    public int tells(int person, int topic, int act) {
        if (!now.people.has(person) || outside(topic, 0, TOPICS - 1)) {
            return NONE;
        }
        if (act == NONE) {
            return law.nowTells(now, person, topic);
        }
        return outside(act, 0, now.actCount - 1) ? NONE : law.tellsBy(now, act, person, topic);
    }

    public boolean lawful(int person, int d, int k) {
        if (!now.people.has(person) || outside(d, 0, LAST_DAY) || outside(k, 0, LAST_DAY)) {
            return false;
        }
        return law.wasLawful(now, person, d, k);
    }

    public boolean hold(int creditor, int debtor) {
        if (!areTwo(creditor, debtor) || now.detains(creditor, debtor)) {
            return false;
        }
        if ((now.creditorsOf(debtor) & 1 << creditor) == 0 || law.nowTells(now, debtor, HELD) == 0) {
            return false;
        }
        if (!now.people.isHeld(debtor)) {
            now.people.enter(debtor, now.day, law.nowTells(now, debtor, ENTRY));
        }
        now.people.detainers[debtor] |= 1 << creditor;
        return true;
    }

    public boolean tire(int creditor, int debtor) {
        if (!areTwo(creditor, debtor) || !now.detains(creditor, debtor)) {
            return false;
        }
        now.people.detainers[debtor] &= ~(1 << creditor);
        return true;
    }

    public boolean leave(int person) {
        People people = now.people;
        if (!people.isHeld(person) || people.detainers[person] != 0 || people.out[person] != 0) {
            return false;
        }
        int fees = people.fees[person];
        if (people.coins[person] < fees) {
            return false;
        }
        people.coins[person] -= fees;
        now.feesPaid += fees;
        people.letGo(person);
        return true;
    }

    public boolean room(int person, int room) {
        if (!now.people.isHeld(person) || outside(room, 0, LAST_ROOM)) {
            return false;
        }
        now.people.room[person] = room;
        return true;
    }

    public boolean walk(int person, boolean out) {
        int wanted = out ? 1 : 0;
        if (!now.people.isHeld(person) || now.people.out[person] == wanted) {
            return false;
        }
        if (out && law.nowTells(now, person, WALK) == 0) {
            return false;
        }
        now.people.out[person] = wanted;
        return true;
    }

    public int hour() {
        if (now.hour >= LAST_HOUR) {
            return NONE;
        }
        // The HOUR that goes by is the one that ends here, so walk is asked before the next begins.
        for (int p = 0; p < now.people.size; p++) {
            if (now.people.isHeld(p) && now.people.out[p] != 0 && law.nowTells(now, p, WALK) == 0) {
                now.people.late[p]++;
            }
        }
        now.hour++;
        return now.hour;
    }

    public int day() {
        if (now.day >= LAST_DAY) {
            return NONE;
        }
        People people = now.people;
        int turn = people.turnToday();
        if (turn != NONE) {
            people.turns[turn]++;
        }
        for (int p = 0; p < people.size; p++) {
            if (people.isHeld(p) && people.out[p] != 0) {
                people.escapes[p]++;
                people.letGo(p);
            } else if (people.isHeld(p)) {
                people.fees[p] += law.nowTells(now, p, DAILY);
            }
        }
        now.day++;
        now.hour = 0;
        return now.day;
    }

    public int turn() {
        return now.people.turnToday();
    }

    public int alms(int coins) {
        int person = now.people.turnToday();
        if (person == NONE || outside(coins, 1, MOST_ALMS)) {
            return NONE;
        }
        now.people.coins[person] += coins;
        return person;
    }

    public int tell(int person, int what) {
        if (!now.people.has(person)) {
            return NO_SUCH;
        }
        switch (what) {
            case 11: return now.dueBy(person);
            case 12: return now.dueTo(person);
            default: return now.people.standOf(person, what);
        }
    }

    public boolean least(int creditor, int debtor, int thousandths) {
        if (!areTwo(creditor, debtor) || outside(thousandths, 0, WHOLE)) {
            return false;
        }
        now.setLeast(creditor, debtor, thousandths);
        return true;
    }

    public boolean binds(int debtor, int r) {
        if (!now.people.has(debtor) || outside(r, 0, WHOLE)) {
            return false;
        }
        vote.call(law, now, debtor);
        return vote.bindsAt(now, r);
    }

    public int offer(int debtor) {
        if (!now.people.has(debtor)) {
            return NONE;
        }
        vote.call(law, now, debtor);
        return vote.leastOffer(now);
    }

    public int compose(int debtor, int r) {
        if (!now.people.has(debtor) || outside(r, 0, WHOLE)) {
            return NONE;
        }
        vote.call(law, now, debtor);
        if (!vote.bindsAt(now, r)) {
            return NONE;
        }
        long all = 0;
        for (int d = 0; d < now.debts.size; d++) {
            all += now.owes(debtor, d) ? thousandthsOf(now.debts.due(d, now.day), r) : 0;
        }
        if (all > now.people.coins[debtor]) {
            return NONE;
        }
        for (int d = 0; d < now.debts.size; d++) {
            if (now.owes(debtor, d)) {
                composeOne(d, r);
            }
        }
        now.dropIdleDetainers();
        return (int) all;
    }

    public boolean buy(int debt, int buyer, int price) {
        if (!now.debts.isLive(debt) || !now.people.has(buyer) || outside(price, 0, MOST_SUM)) {
            return false;
        }
        int seller = now.debts.creditor[debt];
        if (buyer == seller || buyer == now.debts.debtor[debt] || now.people.coins[buyer] < price) {
            return false;
        }
        now.moveCoins(buyer, seller, price);
        now.debts.creditor[debt] = buyer;
        now.debts.bought[debt] = 1;
        now.dropIdleDetainers();
        return true;
    }

    public int swing(int debtor, int friend, int r, int what) {
        if (!areTwo(debtor, friend) || outside(r, 0, WHOLE) || outside(what, 0, 1)) {
            return NONE;
        }
        vote.call(law, now, debtor);
        if (!swings.find(vote, now, friend, r)) {
            return NONE;
        }
        return what == 0 ? (int) swings.cheapest : swings.cheapestSet;
    }

    public int surrender(int person) {
        if (!now.people.has(person) || now.creditorsOf(person) == 0) {
            return NONE;
        }
        long coins = now.people.coins[person];
        int kept = (int) (coins * law.nowTells(now, person, KEEP) / 100);
        parting.clear();
        for (int d = 0; d < now.debts.size; d++) {
            parting.claim[d] = now.owes(person, d) ? now.debts.due(d, now.day) : 0;
        }
        int parted = parting.divide(now.debts, (int) coins - kept);
        for (int d = 0; d < now.debts.size; d++) {
            if (now.owes(person, d)) {
                surrenderOne(d);
            }
        }
        now.people.surrendered[person] = 1;
        now.dropIdleDetainers();
        return parted;
    }

    public int found(int person, int coins) {
        if (!now.people.has(person) || outside(coins, 1, MOST_COINS)) {
            return NONE;
        }
        boolean opened = now.people.surrendered[person] != 0 && law.nowTells(now, person, OPENS) != 0;
        now.people.coins[person] += coins;
        if (!opened) {
            return 0;
        }
        parting.clear();
        for (int d = 0; d < now.debts.size; d++) {
            parting.claim[d] = now.debts.debtor[d] == person ? now.debts.lack[d] : 0;
        }
        int parted = parting.divide(now.debts, coins);
        for (int d = 0; d < now.debts.size; d++) {
            if (now.debts.debtor[d] == person) {
                now.moveCoins(person, now.debts.creditor[d], parting.share[d]);
                now.debts.lack[d] -= parting.share[d];
            }
        }
        return parted;
    }

    public int book(int person, int coins) {
        if (!now.people.has(person) || now.bookRows >= MOST_BOOK_ROWS
                || coins == 0 || outside(coins, -MOST_SUM, MOST_SUM)) {
            return NONE;
        }
        now.bookRows++;
        People people = now.people;
        people.bookSum[person] += coins;
        people.concealed[person] = Math.max(people.concealed[person], -people.bookSum[person]);
        return people.concealed[person];
    }

    public int free(int purse, int what) {
        if (outside(purse, 0, MOST_COINS) || outside(what, 0, 2)) {
            return NONE;
        }
        freeing.find(now, purse);
        switch (what) {
            case 0: return freeing.most;
            case 1: return freeing.mostSet;
            default: return (int) freeing.mostPurse;
        }
    }

    public int count(int what) {
        switch (what) {
            case 0: return now.people.size;
            case 1: return now.debts.size;
            case 2: return now.debts.liveOnes();
            case 3: return now.actCount;
            case 4: return now.day;
            case 5: return now.hour;
            case 6: return now.people.heldOnes();
            case 7: return now.rowLength;
            case 8: return now.feesPaid;
            case 9: return now.people.allCoins();
            case 10: return now.debts.allDue(now.day);
            case 11: return now.bookRows;
            default: return NONE;
        }
    }

    public boolean image(int k) {
        if (outside(k, 0, MOST_IMAGES - 1)) {
            return false;
        }
        if (images[k] == null) {
            images[k] = new House();
        }
        images[k].copyFrom(now);
        return true;
    }

    public boolean again(int k) {
        if (outside(k, 0, MOST_IMAGES - 1) || images[k] == null) {
            return false;
        }
        now.copyFrom(images[k]);
        return true;
    }

    private void composeOne(int debt, int r) {
        int due = now.debts.due(debt, now.day);
        int paid = thousandthsOf(due, r);
        now.moveCoins(now.debts.debtor[debt], now.debts.creditor[debt], paid);
        now.debts.finish(debt, paid == due ? PAID : FORGIVEN, now.day);
    }

    private void surrenderOne(int debt) {
        int share = parting.share[debt];
        now.moveCoins(now.debts.debtor[debt], now.debts.creditor[debt], share);
        now.debts.lack[debt] = parting.claim[debt] - share;
        now.debts.finish(debt, now.debts.lack[debt] == 0 ? PAID : RELEASED, now.day);
    }

    private boolean areTwo(int one, int other) {
        return one != other && now.people.has(one) && now.people.has(other);
    }

    private static boolean outside(int number, int least, int most) {
        return number < least || number > most;
    }

    private static int thousandthsOf(int coins, int thousandths) {
        return (int) ((long) coins * thousandths / WHOLE);
    }

    private static void copyNumbers(int[] from, int[] to) {
        System.arraycopy(from, 0, to, 0, Math.min(from.length, to.length));
    }

    /** PERSONS, a row for each thing that is told of them. */
    private static final class People {
        int size;
        final int[] coins = new int[MOST_PERSONS];
        final int[] children = new int[MOST_PERSONS];
        /** NONE tells that one is not HELD. */
        final int[] heldSince = new int[MOST_PERSONS];
        final int[] room = new int[MOST_PERSONS];
        final int[] fees = new int[MOST_PERSONS];
        final int[] out = new int[MOST_PERSONS];
        final int[] late = new int[MOST_PERSONS];
        final int[] turns = new int[MOST_PERSONS];
        final int[] escapes = new int[MOST_PERSONS];
        final int[] detainers = new int[MOST_PERSONS];
        final int[] surrendered = new int[MOST_PERSONS];
        final int[] bookSum = new int[MOST_PERSONS];
        final int[] concealed = new int[MOST_PERSONS];

        void copyFrom(People other) {
            size = other.size;
            copyNumbers(other.coins, coins);
            copyNumbers(other.children, children);
            copyNumbers(other.heldSince, heldSince);
            copyNumbers(other.room, room);
            copyNumbers(other.fees, fees);
            copyNumbers(other.out, out);
            copyNumbers(other.late, late);
            copyNumbers(other.turns, turns);
            copyNumbers(other.escapes, escapes);
            copyNumbers(other.detainers, detainers);
            copyNumbers(other.surrendered, surrendered);
            copyNumbers(other.bookSum, bookSum);
            copyNumbers(other.concealed, concealed);
        }

        boolean has(int person) {
            return person >= 0 && person < size && person < MOST_PERSONS;
        }

        boolean isHeld(int person) {
            return person >= 0 && person < size && person < MOST_PERSONS && heldSince[person] != NONE;
        }

        /** A place may have been used ahead of again(), so every row is set anew. */
        int add(int itsCoins, int itsChildren) {
            if (size >= MOST_PERSONS) {
                return NONE;
            }
            int person = size;
            size++;
            coins[person] = itsCoins;
            children[person] = itsChildren;
            letGo(person);
            late[person] = 0;
            turns[person] = 0;
            escapes[person] = 0;
            surrendered[person] = 0;
            bookSum[person] = 0;
            concealed[person] = 0;
            return person;
        }

        void enter(int person, int day, int entry) {
            heldSince[person] = day;
            room[person] = 0;
            fees[person] = entry;
            out[person] = 0;
        }

        void letGo(int person) {
            heldSince[person] = NONE;
            room[person] = 0;
            fees[person] = 0;
            out[person] = 0;
            detainers[person] = 0;
        }

        int turnToday() {
            int first = NONE;
            for (int p = 0; p < size; p++) {
                if (isHeld(p) && (first == NONE || comesAhead(p, first))) {
                    first = p;
                }
            }
            return first;
        }

        private boolean comesAhead(int one, int other) {
            if (turns[one] != turns[other]) {
                return turns[one] < turns[other];
            }
            return heldSince[one] < heldSince[other];
        }

        int standOf(int person, int what) {
            switch (what) {
                case 0: return coins[person];
                case 1: return children[person];
                case 2: return isHeld(person) ? 1 : 0;
                case 3: return heldSince[person];
                case 4: return isHeld(person) ? room[person] : NONE;
                case 5: return fees[person];
                case 6: return out[person];
                case 7: return late[person];
                case 8: return turns[person];
                case 9: return escapes[person];
                case 10: return detainers[person];
                case 13: return surrendered[person];
                case 14: return concealed[person];
                default: return NO_SUCH;
            }
        }

        int heldOnes() {
            int held = 0;
            for (int p = 0; p < size; p++) {
                held += isHeld(p) ? 1 : 0;
            }
            return held;
        }

        int allCoins() {
            int all = 0;
            for (int p = 0; p < size; p++) {
                all += coins[p];
            }
            return all;
        }
    }

    /** DEBTS, a row for each thing that is told of them. */
    private static final class Debts {
        private static final int YEAR_OF_THOUSANDTHS = 360000;

        int size;
        final int[] debtor = new int[MOST_DEBTS];
        final int[] creditor = new int[MOST_DEBTS];
        final int[] sum = new int[MOST_DEBTS];
        final int[] rank = new int[MOST_DEBTS];
        final int[] rate = new int[MOST_DEBTS];
        final int[] since = new int[MOST_DEBTS];
        final int[] told = new int[MOST_DEBTS];
        final int[] state = new int[MOST_DEBTS];
        final int[] principal = new int[MOST_DEBTS];
        /** What was reckoned up to reckonedOn and is not paid; what has grown since is not in it. */
        final int[] interest = new int[MOST_DEBTS];
        final int[] reckonedOn = new int[MOST_DEBTS];
        final int[] costs = new int[MOST_DEBTS];
        final int[] bought = new int[MOST_DEBTS];
        final int[] lack = new int[MOST_DEBTS];
        final int[] ended = new int[MOST_DEBTS];

        void copyFrom(Debts other) {
            size = other.size;
            copyNumbers(other.debtor, debtor);
            copyNumbers(other.creditor, creditor);
            copyNumbers(other.sum, sum);
            copyNumbers(other.rank, rank);
            copyNumbers(other.rate, rate);
            copyNumbers(other.since, since);
            copyNumbers(other.told, told);
            copyNumbers(other.state, state);
            copyNumbers(other.principal, principal);
            copyNumbers(other.interest, interest);
            copyNumbers(other.reckonedOn, reckonedOn);
            copyNumbers(other.costs, costs);
            copyNumbers(other.bought, bought);
            copyNumbers(other.lack, lack);
            copyNumbers(other.ended, ended);
        }

        boolean has(int debt) {
            return debt >= 0 && debt < size && debt < MOST_DEBTS;
        }

        boolean isLive(int debt) {
            return debt >= 0 && debt < size && debt < MOST_DEBTS && state[debt] == LIVE;
        }

        /** A place may have been used ahead of again(), so every row is set anew. */
        int add(int itsDebtor, int itsCreditor, int itsSum, int today) {
            if (size >= MOST_DEBTS) {
                return NONE;
            }
            int debt = size;
            size++;
            debtor[debt] = itsDebtor;
            creditor[debt] = itsCreditor;
            sum[debt] = itsSum;
            principal[debt] = itsSum;
            told[debt] = today;
            state[debt] = LIVE;
            interest[debt] = 0;
            costs[debt] = 0;
            bought[debt] = 0;
            lack[debt] = 0;
            ended[debt] = NONE;
            return debt;
        }

        void setTerms(int debt, int itsRank, int itsRate, int itsSince) {
            if (has(debt)) {
                rank[debt] = itsRank;
                rate[debt] = itsRate;
                since[debt] = itsSince;
                reckonedOn[debt] = itsSince;
            }
        }

        int interestOn(int debt, int day) {
            long grown = (long) principal[debt] * rate[debt] * (day - reckonedOn[debt]) / YEAR_OF_THOUSANDTHS;
            return interest[debt] + (int) grown;
        }

        int due(int debt, int day) {
            return isLive(debt) ? costs[debt] + interestOn(debt, day) + principal[debt] : 0;
        }

        void takeOff(int debt, int coins, int day) {
            interest[debt] = interestOn(debt, day);
            reckonedOn[debt] = day;
            int fromCosts = Math.min(coins, costs[debt]);
            int fromInterest = Math.min(coins - fromCosts, interest[debt]);
            costs[debt] -= fromCosts;
            interest[debt] -= fromInterest;
            principal[debt] -= coins - fromCosts - fromInterest;
            if (due(debt, day) == 0) {
                finish(debt, PAID, day);
            }
        }

        void finish(int debt, int how, int day) {
            state[debt] = how;
            ended[debt] = day;
        }

        int termOf(int debt, int what) {
            switch (what) {
                case 0: return debtor[debt];
                case 1: return creditor[debt];
                case 2: return sum[debt];
                case 3: return rank[debt];
                case 4: return rate[debt];
                case 5: return since[debt];
                case 6: return told[debt];
                case 7: return state[debt];
                default: return NO_SUCH;
            }
        }

        int standOf(int debt, int what, int day) {
            boolean live = isLive(debt);
            switch (what) {
                case 8: return live ? principal[debt] : 0;
                case 9: return live ? interestOn(debt, day) : 0;
                case 10: return live ? costs[debt] : 0;
                case 11: return due(debt, day);
                case 12: return bought[debt];
                case 13: return lack[debt];
                case 14: return ended[debt];
                default: return NO_SUCH;
            }
        }

        int liveOnes() {
            int live = 0;
            for (int d = 0; d < size; d++) {
                live += isLive(d) ? 1 : 0;
            }
            return live;
        }

        int allDue(int day) {
            int all = 0;
            for (int d = 0; d < size; d++) {
                all += due(d, day);
            }
            return all;
        }
    }

    /** All that is told: what an image keeps. */
    private static final class House {
        final People people = new People();
        final Debts debts = new Debts();
        /** An Act never changes, so that images may share it. */
        final Act[] acts = new Act[MOST_ACTS];
        int actCount;
        int day;
        int hour;
        int feesPaid;
        int bookRows;
        /** How far LEAST is below WHOLE, so that a new row of zeros tells 1000. */
        final int[] belowWhole = new int[MOST_PERSONS * MOST_PERSONS];
        final byte[] tape = new byte[MOST_BYTES];
        int tapeLength;
        int fault;
        int faultPlace = NONE;
        final int[] row = new int[MOST_PERSONS];
        int rowLength;

        void copyFrom(House other) {
            people.copyFrom(other.people);
            debts.copyFrom(other.debts);
            for (int a = 0; a < MOST_ACTS; a++) {
                acts[a] = other.acts[a];
            }
            actCount = other.actCount;
            day = other.day;
            hour = other.hour;
            feesPaid = other.feesPaid;
            bookRows = other.bookRows;
            copyNumbers(other.belowWhole, belowWhole);
            System.arraycopy(other.tape, 0, tape, 0, MOST_BYTES);
            tapeLength = other.tapeLength;
            fault = other.fault;
            faultPlace = other.faultPlace;
            copyNumbers(other.row, row);
            rowLength = other.rowLength;
        }

        int leastOf(int creditor, int debtor) {
            return WHOLE - belowWhole[creditor * MOST_PERSONS + debtor];
        }

        void setLeast(int creditor, int debtor, int thousandths) {
            belowWhole[creditor * MOST_PERSONS + debtor] = WHOLE - thousandths;
        }

        void feedFour(int bytes) {
            for (int shift = 24; shift >= 0 && tapeLength < MOST_BYTES; shift -= 8) {
                tape[tapeLength] = (byte) (bytes >>> shift);
                tapeLength++;
            }
        }

        int goodAct(int d, int k) {
            for (int a = Math.min(actCount, MOST_ACTS) - 1; a >= 0; a--) {
                Act act = acts[a];
                if (act != null && act.told <= k && act.from <= d) {
                    return a;
                }
            }
            return NONE;
        }

        boolean owes(int person, int debt) {
            return debts.isLive(debt) && debts.debtor[debt] == person;
        }

        int dueBy(int person) {
            int all = 0;
            for (int d = 0; d < debts.size; d++) {
                all += owes(person, d) ? debts.due(d, day) : 0;
            }
            return all;
        }

        int dueTo(int person) {
            int all = 0;
            for (int d = 0; d < debts.size; d++) {
                all += debts.creditor[d] == person ? debts.due(d, day) : 0;
            }
            return all;
        }

        /** Bits by PERSONS: the creditors by LIVE DEBTS. */
        int creditorsOf(int person) {
            int creditors = 0;
            for (int d = 0; d < debts.size; d++) {
                creditors |= owes(person, d) ? 1 << debts.creditor[d] : 0;
            }
            return creditors;
        }

        boolean detains(int creditor, int debtor) {
            return (people.detainers[debtor] & 1 << creditor) != 0;
        }

        /** Who has no LIVE DEBT of one any more detains it no more. */
        void dropIdleDetainers() {
            for (int p = 0; p < people.size; p++) {
                if (people.detainers[p] != 0) {
                    people.detainers[p] &= creditorsOf(p);
                }
            }
        }

        void moveCoins(int from, int to, int coins) {
            people.coins[from] -= coins;
            people.coins[to] += coins;
        }
    }

    /** A text that was read without a FAULT: for each LINE its topic, what it tells, and its TESTS. */
    private static final class Act {
        static final int TOPIC_AT = 0;
        static final int VALUE_AT = 1;
        static final int TESTS_AT = 2;
        static final int FIRST_TEST_AT = 3;
        static final int NEGATED_AT = 0;
        static final int SUBJECT_AT = 1;
        static final int SIGN_AT = 2;
        static final int NUMBER_AT = 3;
        static final int TEST_SIZE = 4;
        static final int LINE_SIZE = FIRST_TEST_AT + MOST_TESTS * TEST_SIZE;

        final int from;
        final int told;
        private final int[] lines;
        private final int lineCount;

        Act(int goodFrom, int toldOn, int[] linesRead, int linesThere) {
            from = goodFrom;
            told = toldOn;
            lineCount = Math.max(0, Math.min(linesThere, Math.min(MOST_LINES, linesRead.length / LINE_SIZE)));
            lines = new int[lineCount * LINE_SIZE];
            System.arraycopy(linesRead, 0, lines, 0, lines.length);
        }

        int tellsOf(int topic, int[] facts) {
            for (int line = 0; line < lineCount; line++) {
                int start = line * LINE_SIZE;
                if (lines[start + TOPIC_AT] == topic && testsHold(start, facts)) {
                    return lines[start + VALUE_AT];
                }
            }
            return Law.withoutLine(topic);
        }

        private boolean testsHold(int start, int[] facts) {
            int tests = Math.min(MOST_TESTS, lines[start + TESTS_AT]);
            for (int t = 0; t < tests; t++) {
                if (!testHolds(start + FIRST_TEST_AT + t * TEST_SIZE, facts)) {
                    return false;
                }
            }
            return true;
        }

        private boolean testHolds(int at, int[] facts) {
            int subject = lines[at + SUBJECT_AT];
            if (outside(subject, 0, facts.length - 1)) {
                return false;
            }
            int fact = facts[subject];
            int number = lines[at + NUMBER_AT];
            boolean so;
            switch (lines[at + SIGN_AT]) {
                case '<': so = fact < number; break;
                case '>': so = fact > number; break;
                default: so = fact == number; break;
            }
            return so != (lines[at + NEGATED_AT] != 0);
        }
    }

    /** Reads the tape as a TEXT, to its end or to the first token with which no text goes on. */
    private static final class Reader {
        private static final String TOPIC_WORDS = "held entry daily walk number worth buyer keep opens";
        private static final String SUBJECT_WORDS = "sum debts rank days children room hour coins";
        private static final int MOST_DIGITS = 5;
        private static final int MOST_PERCENT = 100;

        private static final int GOES_NOT_ON = 1;
        private static final int TOO_GREAT = 2;
        private static final int TOO_MANY = 3;

        private static final int AT_END = 0;
        private static final int A_WORD = 1;
        private static final int A_NUMBER = 2;
        private static final int A_SIGN = 3;
        private static final int NO_TOKEN = 4;

        int fault;
        int faultPlace;
        int lineCount;
        final int[] lines = new int[MOST_LINES * Act.LINE_SIZE];

        private byte[] text = new byte[0];
        private int length;
        private int kind;
        private int from;
        private int behind;
        private int value;

        void read(byte[] bytes, int byteCount) {
            fault = 0;
            faultPlace = NONE;
            lineCount = 0;
            text = bytes;
            length = Math.min(byteCount, bytes.length);
            behind = 0;
            step();
            for (int line = 0; line < MOST_BYTES && kind != AT_END && fault != GOES_NOT_ON; line++) {
                readLine();
            }
        }

        private void readLine() {
            int topic = wordIn(TOPIC_WORDS);
            if (topic == NONE) {
                refuse();
                return;
            }
            if (lineCount >= MOST_LINES) {
                note(TOO_MANY);
            }
            step();
            int tests = readTests();
            takeSign(':');
            int told = readTold(topic);
            takeSign(';');
            keepLine(topic, told, tests);
        }

        private int readTests() {
            int tests = 0;
            for (int i = 0; i < MOST_BYTES && fault != GOES_NOT_ON && isWord(tests == 0 ? "if" : "and"); i++) {
                step();
                if (tests >= MOST_TESTS) {
                    note(TOO_MANY);
                }
                readTest(tests);
                tests++;
            }
            return tests;
        }

        private void readTest(int test) {
            boolean negated = wordIn("not") == 0;
            if (negated) {
                step();
            }
            int subject = wordIn(SUBJECT_WORDS);
            if (subject == NONE) {
                refuse();
                return;
            }
            step();
            int sign = kind == A_SIGN ? value : 0;
            if (sign != '<' && sign != '>' && sign != '=') {
                refuse();
                return;
            }
            step();
            if (kind != A_NUMBER) {
                refuse();
                return;
            }
            keepTest(test, negated, subject, sign);
            step();
        }

        private int readTold(int topic) {
            if (fault == GOES_NOT_ON) {
                return 0;
            }
            int told = kind == A_NUMBER ? value : NONE;
            if (told == NONE) {
                told = wordIn("no yes");
            }
            if (told == NONE) {
                refuse();
                return 0;
            }
            if (told > MOST_PERCENT && (topic == NUMBER || topic == WORTH || topic == KEEP)) {
                note(TOO_GREAT);
            }
            step();
            return told;
        }

        private void takeSign(int sign) {
            if (fault == GOES_NOT_ON) {
                return;
            }
            if (kind == A_SIGN && value == sign) {
                step();
            } else {
                refuse();
            }
        }

        /** With a FAULT nothing is kept any more: there is no place for a 21st LINE or a 5th TEST. */
        private void keepLine(int topic, int told, int tests) {
            int start = lineCount * Act.LINE_SIZE;
            if (fault == 0 && lineCount < MOST_LINES) {
                lines[start + Act.TOPIC_AT] = topic;
                lines[start + Act.VALUE_AT] = told;
                lines[start + Act.TESTS_AT] = tests;
            }
            lineCount++;
        }

        private void keepTest(int test, boolean negated, int subject, int sign) {
            int at = lineCount * Act.LINE_SIZE + Act.FIRST_TEST_AT + test * Act.TEST_SIZE;
            if (fault == 0 && lineCount < MOST_LINES && test < MOST_TESTS) {
                lines[at + Act.NEGATED_AT] = negated ? 1 : 0;
                lines[at + Act.SUBJECT_AT] = subject;
                lines[at + Act.SIGN_AT] = sign;
                lines[at + Act.NUMBER_AT] = value;
            }
        }

        private void note(int which) {
            if (fault == 0) {
                fault = which;
                faultPlace = from;
            }
        }

        /** FAULT 1 goes ahead of the others, wherever these are. */
        private void refuse() {
            if (fault != GOES_NOT_ON) {
                fault = GOES_NOT_ON;
                faultPlace = from;
            }
        }

        private void step() {
            from = behind;
            while (from < length && (text[from] == 10 || text[from] == 32)) {
                from++;
            }
            behind = from;
            if (from >= length) {
                kind = AT_END;
            } else if (isLetter(text[from])) {
                stepWord();
            } else if (isDigit(text[from])) {
                stepNumber();
            } else {
                value = text[from];
                kind = value == ':' || value == ';' || value == '<' || value == '>' || value == '='
                        ? A_SIGN : NO_TOKEN;
                behind++;
            }
        }

        private void stepWord() {
            while (behind < length && isLetter(text[behind])) {
                behind++;
            }
            kind = A_WORD;
        }

        private void stepNumber() {
            value = 0;
            while (behind < length && isDigit(text[behind])) {
                value = behind - from < MOST_DIGITS ? value * 10 + text[behind] - '0' : value;
                behind++;
            }
            kind = behind - from > MOST_DIGITS ? NO_TOKEN : A_NUMBER;
        }

        private static boolean isLetter(int sign) {
            return sign >= 'a' && sign <= 'z';
        }

        private static boolean isDigit(int sign) {
            return sign >= '0' && sign <= '9';
        }

        private boolean isWord(String word) {
            return wordIn(word) == 0;
        }

        /** The place of the word that is read now among words with blanks between. */
        private int wordIn(String words) {
            if (kind != A_WORD) {
                return NONE;
            }
            int place = 0;
            int start = 0;
            for (int i = 0; i <= words.length(); i++) {
                if (i == words.length() || words.charAt(i) == ' ') {
                    if (isPart(words, start, i)) {
                        return place;
                    }
                    place++;
                    start = i + 1;
                }
            }
            return NONE;
        }

        private boolean isPart(String words, int start, int stop) {
            if (stop - start != behind - from) {
                return false;
            }
            for (int i = start; i < stop; i++) {
                if (words.charAt(i) != text[from + i - start]) {
                    return false;
                }
            }
            return true;
        }
    }

    /** What TOPICS tell, by the facts of a PERSON now or on an earlier DAY. */
    private static final class Law {
        private static final int[] WITHOUT_LINE = {1, 0, 0, 0, 50, 75, 1, 0, 1};
        private static final int NO_RANK = 9;

        private static final int SUM = 0;
        private static final int DEBTS = 1;
        private static final int RANK = 2;
        private static final int DAYS = 3;
        private static final int CHILDREN = 4;
        private static final int ROOM = 5;
        private static final int HOUR = 6;
        private static final int COINS = 7;

        private final int[] facts = new int[8];

        static int withoutLine(int topic) {
            return outside(topic, 0, WITHOUT_LINE.length - 1) ? 0 : WITHOUT_LINE[topic];
        }

        int nowTells(House house, int person, int topic) {
            return tellsBy(house, house.goodAct(house.day, house.day), person, topic);
        }

        int tellsBy(House house, int act, int person, int topic) {
            if (outside(act, 0, MOST_ACTS - 1) || house.acts[act] == null) {
                return withoutLine(topic);
            }
            gatherNow(house, person);
            return house.acts[act].tellsOf(topic, facts);
        }

        boolean wasLawful(House house, int person, int d, int k) {
            gatherThen(house, person, d, k);
            if (facts[DEBTS] == 0) {
                return false;
            }
            int act = house.goodAct(d, k);
            if (outside(act, 0, MOST_ACTS - 1) || house.acts[act] == null) {
                return withoutLine(HELD) != 0;
            }
            return house.acts[act].tellsOf(HELD, facts) != 0;
        }

        private void gatherNow(House house, int person) {
            startFacts(house, person);
            for (int d = 0; d < house.debts.size; d++) {
                if (house.owes(person, d)) {
                    addDebt(house.debts.due(d, house.day), house.debts.rank[d]);
                }
            }
            if (house.people.isHeld(person)) {
                facts[DAYS] = house.day - house.people.heldSince[person];
                facts[ROOM] = house.people.room[person];
            }
            facts[HOUR] = house.hour;
        }

        private void gatherThen(House house, int person, int d, int k) {
            Debts debts = house.debts;
            startFacts(house, person);
            for (int debt = 0; debt < debts.size; debt++) {
                boolean ended = debts.state[debt] != LIVE && debts.ended[debt] <= Math.min(d, k);
                if (debts.debtor[debt] == person && debts.since[debt] <= d && debts.told[debt] <= k && !ended) {
                    addDebt(debts.sum[debt], debts.rank[debt]);
                }
            }
        }

        private void startFacts(House house, int person) {
            facts[SUM] = 0;
            facts[DEBTS] = 0;
            facts[RANK] = NO_RANK;
            facts[DAYS] = 0;
            facts[CHILDREN] = house.people.children[person];
            facts[ROOM] = 0;
            facts[HOUR] = 0;
            facts[COINS] = house.people.coins[person];
        }

        private void addDebt(int coins, int rank) {
            facts[SUM] += coins;
            facts[DEBTS]++;
            facts[RANK] = Math.min(facts[RANK], rank);
        }
    }

    /** Finds THE RING. */
    private static final class Rings {
        private static final int FAR = 1000;

        /** By two PERSONS: how many LIVE DEBTS lead from the first, who owes, to the second at least. */
        private final int[] steps = new int[MOST_PERSONS * MOST_PERSONS];

        /** Writes THE RING into a row: how many DEBTS it has. If there is none, 0, and nothing is written. */
        int find(Debts debts, int[] into) {
            measure(debts);
            int length = FAR;
            int first = NONE;
            for (int d = 0; d < debts.size; d++) {
                if (debts.isLive(d) && 1 + stepsBack(debts, d, d) < length) {
                    length = 1 + stepsBack(debts, d, d);
                    first = d;
                }
            }
            if (first == NONE || length > into.length) {
                return 0;
            }
            into[0] = first;
            for (int i = 1; i < length; i++) {
                into[i] = follower(debts, into[i - 1], first, length - i - 1);
            }
            return length;
        }

        /** No ring is shorter, so none of these steps meets a PERSON twice, and the least DEBT each time makes the least row. */
        private int follower(Debts debts, int ahead, int first, int left) {
            for (int d = 0; d < debts.size; d++) {
                if (debts.isLive(d) && debts.debtor[d] == debts.creditor[ahead] && stepsBack(debts, d, first) == left) {
                    return d;
                }
            }
            return first;
        }

        private int stepsBack(Debts debts, int last, int first) {
            return steps[debts.creditor[last] * MOST_PERSONS + debts.debtor[first]];
        }

        private void measure(Debts debts) {
            for (int i = 0; i < steps.length; i++) {
                steps[i] = i / MOST_PERSONS == i % MOST_PERSONS ? 0 : FAR;
            }
            for (int d = 0; d < debts.size; d++) {
                if (debts.isLive(d)) {
                    steps[debts.debtor[d] * MOST_PERSONS + debts.creditor[d]] = 1;
                }
            }
            for (int by = 0; by < MOST_PERSONS; by++) {
                for (int a = 0; a < MOST_PERSONS; a++) {
                    shorten(a, by);
                }
            }
        }

        private void shorten(int a, int by) {
            int toBy = steps[a * MOST_PERSONS + by];
            for (int b = 0; b < MOST_PERSONS && toBy < FAR; b++) {
                int place = a * MOST_PERSONS + b;
                steps[place] = Math.min(steps[place], toBy + steps[by * MOST_PERSONS + b]);
            }
        }
    }

    /** VOTERS on an offer by a debtor, those who SIGN, and their WORTH. */
    private static final class Vote {
        private int debtor;
        private boolean boughtCount;
        private int number;
        private int worth;

        private final int[] counted = new int[MOST_PERSONS];
        private final boolean[] signs = new boolean[MOST_PERSONS];
        private int voters;
        private int signers;
        private long allWorth;
        private long signedWorth;

        void call(Law law, House house, int ofDebtor) {
            debtor = ofDebtor;
            boughtCount = law.nowTells(house, debtor, BUYER) != 0;
            number = law.nowTells(house, debtor, NUMBER);
            worth = law.nowTells(house, debtor, WORTH);
        }

        /** A friend (NONE: nobody) SIGNS whatever its LEAST is. */
        void take(House house, int r, int friend) {
            voters = 0;
            signers = 0;
            allWorth = 0;
            signedWorth = 0;
            for (int p = 0; p < MOST_PERSONS; p++) {
                counted[p] = 0;
                signs[p] = p == friend || r >= house.leastOf(p, debtor);
            }
            for (int d = 0; d < house.debts.size; d++) {
                if (house.owes(debtor, d) && counts(house, d)) {
                    add(house.debts.creditor[d], house.debts.due(d, house.day));
                }
            }
        }

        boolean counts(House house, int debt) {
            return boughtCount || house.debts.bought[debt] == 0;
        }

        void add(int creditor, int due) {
            if (counted[creditor] == 0) {
                voters++;
                signers += signs[creditor] ? 1 : 0;
            }
            counted[creditor]++;
            allWorth += due;
            signedWorth += signs[creditor] ? due : 0;
        }

        void drop(int creditor, int due) {
            counted[creditor]--;
            if (counted[creditor] == 0) {
                voters--;
                signers -= signs[creditor] ? 1 : 0;
            }
            allWorth -= due;
            signedWorth -= signs[creditor] ? due : 0;
        }

        boolean isBinding() {
            return voters > 0 && 100 * signers >= number * voters && 100 * signedWorth >= worth * allWorth;
        }

        /** Who SIGNS changes at 0 and at somebody's LEAST alone. */
        int leastOffer(House house) {
            int best = bindsAt(house, 0) ? 0 : NONE;
            for (int p = 0; p < house.people.size; p++) {
                int r = house.leastOf(p, debtor);
                if ((best == NONE || r < best) && bindsAt(house, r)) {
                    best = r;
                }
            }
            return best;
        }

        boolean bindsAt(House house, int r) {
            take(house, r, NONE);
            return isBinding();
        }
    }

    /** Finds THE SWING: every set is tried, as a number from 0 on, so that the first of the cheapest is the least. */
    private static final class Swing {
        long cheapest;
        int cheapestSet;

        private Vote vote;
        private int friend;
        private int size;
        private long price;
        private final int[] seller = new int[MOST_SWING_DEBTS];
        private final int[] due = new int[MOST_SWING_DEBTS];
        private final int[] cost = new int[MOST_SWING_DEBTS];
        private final boolean[] counted = new boolean[MOST_SWING_DEBTS];

        boolean find(Vote called, House house, int ofFriend, int r) {
            vote = called;
            friend = ofFriend;
            vote.take(house, r, friend);
            gather(house);
            boolean any = false;
            price = 0;
            int sets = 1 << size;
            for (int set = 0; set < sets; set++) {
                if (set > 0) {
                    change(set - 1, set);
                }
                if ((!any || price < cheapest) && vote.isBinding()) {
                    any = true;
                    cheapest = price;
                    cheapestSet = set;
                }
            }
            return any;
        }

        private void gather(House house) {
            size = 0;
            for (int d = 0; d < house.debts.size && size < MOST_SWING_DEBTS; d++) {
                int creditor = house.debts.creditor[d];
                if (house.owes(vote.debtor, d) && creditor != friend) {
                    seller[size] = creditor;
                    due[size] = house.debts.due(d, house.day);
                    cost[size] = thousandthsOf(due[size], house.leastOf(creditor, vote.debtor));
                    counted[size] = vote.counts(house, d);
                    size++;
                }
            }
        }

        private void change(int before, int after) {
            for (int i = 0; i < size; i++) {
                if (((before ^ after) >> i & 1) != 0) {
                    if ((after >> i & 1) != 0) {
                        take(i);
                    } else {
                        giveBack(i);
                    }
                }
            }
        }

        private void take(int i) {
            price += cost[i];
            if (counted[i]) {
                vote.drop(seller[i], due[i]);
            }
            if (vote.boughtCount) {
                vote.add(friend, due[i]);
            }
        }

        private void giveBack(int i) {
            price -= cost[i];
            if (vote.boughtCount) {
                vote.drop(friend, due[i]);
            }
            if (counted[i]) {
                vote.add(seller[i], due[i]);
            }
        }
    }

    /** COINS PARTED among claims on them (what is DUE, or LACKS), RANK by RANK. */
    private static final class Parting {
        final int[] claim = new int[MOST_DEBTS];
        final int[] share = new int[MOST_DEBTS];
        private final long[] rest = new long[MOST_DEBTS];

        void clear() {
            for (int d = 0; d < MOST_DEBTS; d++) {
                claim[d] = 0;
                share[d] = 0;
                rest[d] = 0;
            }
        }

        /** How many COINS were PARTED. */
        int divide(Debts debts, int coins) {
            int left = coins;
            for (int rank = 0; rank <= LAST_RANK; rank++) {
                left -= divideRank(debts, rank, left);
            }
            return coins - left;
        }

        private int divideRank(Debts debts, int rank, int left) {
            long all = 0;
            for (int d = 0; d < debts.size; d++) {
                all += debts.rank[d] == rank ? claim[d] : 0;
            }
            if (all <= left) {
                for (int d = 0; d < debts.size; d++) {
                    share[d] = debts.rank[d] == rank ? claim[d] : share[d];
                }
                return (int) all;
            }
            givePennies(left - divideCut(debts, rank, left, all));
            return left;
        }

        private int divideCut(Debts debts, int rank, int left, long all) {
            int given = 0;
            for (int d = 0; d < debts.size; d++) {
                rest[d] = 0;
                if (debts.rank[d] == rank && all > 0) {
                    long product = (long) claim[d] * left;
                    share[d] = (int) (product / all);
                    rest[d] = product % all;
                    given += share[d];
                }
            }
            return given;
        }

        private void givePennies(int pennies) {
            for (int penny = 0; penny < pennies && penny < MOST_DEBTS; penny++) {
                int greatest = 0;
                for (int d = 1; d < MOST_DEBTS; d++) {
                    if (rest[d] > rest[greatest]) {
                        greatest = d;
                    }
                }
                share[greatest]++;
                rest[greatest] = 0;
            }
        }
    }

    /**
     * Finds whom a purse frees. What one has, once a set has been FREED ahead of it, depends on that set and not on
     * its order; so for each set the least of the purse is that of a set with one fewer, and of the last one.
     */
    private static final class Freeing {
        int most;
        int mostSet;
        long mostPurse;

        private int size;
        private final int[] who = new int[MOST_FREED];
        private final long[] needs = new long[MOST_FREED];
        private final long[] pays = new long[MOST_FREED * MOST_FREED];
        private final long[] purseOf = new long[1 << MOST_FREED];

        void find(House house, int purse) {
            gather(house);
            most = 0;
            mostSet = 0;
            mostPurse = 0;
            purseOf[0] = 0;
            for (int set = 1; set < 1 << size; set++) {
                purseOf[set] = leastPurse(set);
                int freed = Integer.bitCount(set);
                boolean better = freed > most || freed == most && purseOf[set] < mostPurse;
                if (purseOf[set] <= purse && better) {
                    most = freed;
                    mostSet = set;
                    mostPurse = purseOf[set];
                }
            }
            mostSet = byPersons(mostSet);
        }

        private void gather(House house) {
            People people = house.people;
            size = 0;
            for (int p = 0; p < people.size && size < MOST_FREED; p++) {
                if (people.isHeld(p)) {
                    who[size] = p;
                    needs[size] = (long) house.dueBy(p) + people.fees[p] - people.coins[p];
                    size++;
                }
            }
            for (int i = 0; i < size * MOST_FREED; i++) {
                pays[i] = 0;
            }
            for (int d = 0; d < house.debts.size; d++) {
                int from = placeOf(house.debts.debtor[d]);
                int to = placeOf(house.debts.creditor[d]);
                if (from != NONE && to != NONE) {
                    pays[from * MOST_FREED + to] += house.debts.due(d, house.day);
                }
            }
        }

        private int placeOf(int person) {
            for (int i = 0; i < size; i++) {
                if (who[i] == person) {
                    return i;
                }
            }
            return NONE;
        }

        private long leastPurse(int set) {
            long best = NONE;
            for (int last = 0; last < size; last++) {
                if ((set >> last & 1) != 0) {
                    int ahead = set & ~(1 << last);
                    long all = purseOf[ahead] + needAfter(last, ahead);
                    best = best == NONE ? all : Math.min(best, all);
                }
            }
            return best;
        }

        private long needAfter(int last, int ahead) {
            long need = needs[last];
            for (int i = 0; i < size; i++) {
                need -= (ahead >> i & 1) != 0 ? pays[i * MOST_FREED + last] : 0;
            }
            return Math.max(0, need);
        }

        private int byPersons(int set) {
            int persons = 0;
            for (int i = 0; i < size; i++) {
                persons |= (set >> i & 1) != 0 ? 1 << who[i] : 0;
            }
            return persons;
        }
    }
}
