import java.util.Arrays;

/**
 * Traders who own one thing each and trade in rings. Every public method is a promise of the
 * document; the classes inside hold the state and find what the promises ask for.
 */
public final class TradeRings {
    public static final int NONE = -9;

    private static final int MOST_TRADERS = 7;
    private static final int WORST_RANK = 9;

    private final Text text = new Text();
    private final Market market = new Market();
    private final History history = new History();
    private final Slot slotZero = new Slot();
    private final Slot slotOne = new Slot();

    // Work space that every call fills anew: nothing is remembered in it from call to call.
    private final Market copy = new Market();
    private final Trading trading = new Trading();
    private final Trading tradingWithout = new Trading();
    private final Sharing sharing = new Sharing();
    private final Search search = new Search();
    private final Script commands = new Script();

    public TradeRings() {
    }

    // ---- text

    public int append(int c) throws IllegalArgumentException, IllegalStateException {
        if (c < 0 || c > 255) {
            throw new IllegalArgumentException("a character code is from 0 to 255");
        }
        if (text.isFull()) {
            throw new IllegalStateException("the text is full");
        }
        text.add(c);
        return text.length;
    }

    public int clearText() {
        int before = text.length;
        text.length = 0;
        return before;
    }

    public int errorPosition() {
        return text.readMarket(copy);
    }

    public int load() throws IllegalStateException {
        if (text.readMarket(copy) != NONE) {
            throw new IllegalStateException("the text is not a market");
        }
        market.become(copy);
        history.forgetAll();
        slotZero.isFull = false;
        slotOne.isFull = false;
        return market.presentCount();
    }

    // ---- what there is

    public int about(int what) throws IllegalArgumentException {
        switch (what) {
            case 0:
                return market.count;
            case 1:
                return market.presentCount();
            case 2:
                return market.ownersWithTheirThing();
            case 3:
                return market.sumOfRanks();
            case 4:
                return presentTrading().rings;
            case 5:
                return presentTrading().rounds;
            case 6:
                return presentTrading().movers(market);
            case 7:
                return market.envies();
            default:
                throw new IllegalArgumentException("what is from 0 to 7");
        }
    }

    public int trader(int i, int what) throws IndexOutOfBoundsException, IllegalArgumentException {
        needTrader(i);
        switch (what) {
            case 0:
                return at(market.holds, i);
            case 1:
                return market.rankOfHeld(i);
            case 2:
                return market.isPresent(i) ? 1 : 0;
            case 3:
                return at(presentTrading().gets, i);
            case 4:
                return at(presentTrading().roundOf, i);
            case 5:
                return at(presentTrading().ringOf, i);
            case 6:
                return at(presentTrading().firstChoice, i);
            default:
                throw new IllegalArgumentException("what is from 0 to 6");
        }
    }

    public int rank(int i, int t) throws IndexOutOfBoundsException {
        needTrader(i);
        needThing(t);
        return market.rankBy(i, t);
    }

    public int holder(int t) throws IndexOutOfBoundsException {
        needThing(t);
        return market.holderOf(t);
    }

    public int ring(int k, int what) throws IndexOutOfBoundsException, IllegalArgumentException {
        Trading found = presentTrading();
        needRing(found, k);
        switch (what) {
            case 0:
                return at(found.tradersOf, k);
            case 1:
                return Integer.bitCount(at(found.tradersOf, k));
            case 2:
                return at(found.roundOfRing, k);
            case 3:
                return found.gainOf(market, k);
            default:
                throw new IllegalArgumentException("what is from 0 to 3");
        }
    }

    public int whyNot(int i, int j) throws IndexOutOfBoundsException {
        needTrader(i);
        needTrader(j);
        return market.reasonAgainst(i, j);
    }

    // ---- actions

    public int addTrader() throws IllegalStateException {
        if (market.count >= MOST_TRADERS) {
            throw new IllegalStateException("there are 7 traders");
        }
        history.remember(market);
        return market.addOne();
    }

    public int setRank(int i, int t, int r) throws IndexOutOfBoundsException, IllegalArgumentException {
        needTrader(i);
        needThing(t);
        if (r < 0 || r > WORST_RANK) {
            throw new IllegalArgumentException("a rank is from 0 to 9");
        }
        history.remember(market);
        int before = market.rankBy(i, t);
        market.putRank(i, t, r);
        return before;
    }

    public int exchange(int i, int j) throws IndexOutOfBoundsException, IllegalStateException {
        needTrader(i);
        needTrader(j);
        if (market.reasonAgainst(i, j) != 0) {
            throw new IllegalStateException("the traders cannot exchange");
        }
        history.remember(market);
        market.swap(i, j);
        return at(market.holds, i);
    }

    public int doRing(int k) throws IndexOutOfBoundsException {
        Trading found = presentTrading();
        needRing(found, k);
        history.remember(market);
        return market.take(found, at(found.tradersOf, k));
    }

    public int trade() {
        history.remember(market);
        return market.take(presentTrading(), market.present());
    }

    public int leave(int i) throws IndexOutOfBoundsException, IllegalStateException {
        needTrader(i);
        if (!market.isPresent(i)) {
            throw new IllegalStateException("the trader has left");
        }
        history.remember(market);
        market.sendAway(i);
        return market.presentCount();
    }

    public int goHome() {
        history.remember(market);
        return market.sendHome();
    }

    public int undo() throws IllegalStateException {
        if (history.remembered() == 0) {
            throw new IllegalStateException("no state is remembered");
        }
        history.takeBack(market);
        return history.remembered();
    }

    // ---- what would be

    public int group(boolean much) {
        return sharing.smallestGroup(market, much);
    }

    public int groups(boolean much) {
        return sharing.countGroups(market, much);
    }

    public int least() {
        return sharing.leastSum(market);
    }

    public int leastOf(int i) throws IndexOutOfBoundsException {
        needTrader(i);
        return sharing.thingAtLeast(market, i);
    }

    public int betterWays() {
        return sharing.countBetterWays(market);
    }

    public int harms(int i) throws IndexOutOfBoundsException {
        needTrader(i);
        if (!market.isPresent(i)) {
            return 0;
        }
        int others = market.present() & ~bit(i);
        Trading with = presentTrading();
        tradingWithout.find(market, others);
        int harmed = 0;
        for (int j = 0; j < market.count; j++) {
            if (contains(others, j)
                    && market.lossBy(j, at(tradingWithout.gets, j)) > market.lossBy(j, at(with.gets, j))) {
                harmed |= bit(j);
            }
        }
        return harmed;
    }

    public int fewest(int i, int t) throws IndexOutOfBoundsException {
        needTrader(i);
        needThing(t);
        copy.become(market);
        return search.fewestExchanges(copy, i, t);
    }

    // ---- scripts, simulations

    public int runScript(int n, long script) throws IllegalArgumentException {
        if (n < 1 || n > Script.MOST_COMMANDS) {
            throw new IllegalArgumentException("a script has 1 to 4 commands");
        }
        if (script < 0 || !commands.takes(n, script)) {
            throw new IllegalArgumentException("a script is a number of at most 4 digits a command");
        }
        copy.become(market);
        for (int k = 0; k < n; k++) {
            if (!commands.succeeds(k, copy, trading, sharing)) {
                return k;
            }
        }
        return NONE;
    }

    public int simulate(long seed, int m) throws IllegalArgumentException {
        if (m < 1 || m > 99) {
            throw new IllegalArgumentException("there are 1 to 99 meetings");
        }
        copy.become(market);
        int exchanges = 0;
        long x = seed;
        for (int meeting = 0; meeting < m; meeting++) {
            x = x * 6364136223846793005L + 1442695040888963407L;
            if (meet(copy, (int) (x >>> 33))) {
                exchanges++;
            }
        }
        return 1000 * exchanges + 100 * copy.presentCount() + copy.sumOfRanks();
    }

    // ---- save slots

    public int save(int slot) throws IndexOutOfBoundsException {
        Slot into = neededSlot(slot);
        into.saved.become(market);
        into.isFull = true;
        return market.count;
    }

    public int restore(int slot) throws IndexOutOfBoundsException, IllegalStateException {
        Slot from = neededSlot(slot);
        if (!from.isFull) {
            throw new IllegalStateException("nothing has been saved in the slot");
        }
        market.become(from.saved);
        history.forgetAll();
        return market.count;
    }

    // ---- helpers

    private Trading presentTrading() {
        trading.find(market, market.present());
        return trading;
    }

    private void needTrader(int i) {
        if (!market.has(i)) {
            throw new IndexOutOfBoundsException("there is no such trader");
        }
    }

    private void needThing(int t) {
        if (!market.has(t)) {
            throw new IndexOutOfBoundsException("there is no such thing");
        }
    }

    private Slot neededSlot(int slot) {
        if (slot != 0 && slot != 1) {
            throw new IndexOutOfBoundsException("there is no such save slot");
        }
        return slot == 0 ? slotZero : slotOne;
    }

    private static void needRing(Trading found, int k) {
        if (!found.hasRing(k)) {
            throw new IndexOutOfBoundsException("there is no such ring");
        }
    }

    /** One meeting of a simulation; returns whether there is an exchange. */
    private static boolean meet(Market m, int r) {
        if (m.count <= 0) {
            return false;
        }
        int first = r / 16 % m.count;
        int second = r / 256 % m.count;
        boolean exchanged = m.reasonAgainst(first, second) == 0;
        if (exchanged) {
            m.swap(first, second);
        }
        if (r % 16 == 0) {
            m.sendAway(first);
        }
        return exchanged;
    }

    private static int bit(int number) {
        return 1 << number;
    }

    private static boolean contains(int bits, int number) {
        return (bits >> number & 1) != 0;
    }

    /** The number at the place k of the row; NONE if there is no such place. */
    private static int at(int[] row, int k) {
        return k >= 0 && k < row.length ? row[k] : NONE;
    }

    /** Puts the number at the place k of the row; a place that there is not stays untouched. */
    private static void put(int[] row, int k, int number) {
        if (k >= 0 && k < row.length) {
            row[k] = number;
        }
    }

    private static void copyRow(int[] from, int[] to) {
        System.arraycopy(from, 0, to, 0, Math.min(from.length, to.length));
    }

    /** The state. A thing has the number of its owner, so one bound serves for traders and things. */
    private static final class Market {
        int count;
        int left;
        final int[] ranks = new int[MOST_TRADERS * MOST_TRADERS];
        final int[] holds = new int[MOST_TRADERS];

        void become(Market other) {
            count = other.count;
            left = other.left;
            copyRow(other.ranks, ranks);
            copyRow(other.holds, holds);
        }

        boolean has(int number) {
            return number >= 0 && number < count;
        }

        int everybody() {
            return bit(count) - 1;
        }

        int present() {
            return everybody() & ~left;
        }

        boolean isPresent(int i) {
            return !contains(left, i);
        }

        int presentCount() {
            return Integer.bitCount(present());
        }

        int rankBy(int i, int t) {
            int place = i * MOST_TRADERS + t;
            return place >= 0 && place < ranks.length ? ranks[place] : NONE;
        }

        int rankOfHeld(int i) {
            return rankBy(i, at(holds, i));
        }

        void putRank(int i, int t, int r) {
            put(ranks, i * MOST_TRADERS + t, r);
        }

        /** Above 0: i likes the thing less than what it holds; below 0: better; 0: alike. */
        int lossBy(int i, int t) {
            return rankBy(i, t) - rankOfHeld(i);
        }

        int holderOf(int t) {
            for (int i = 0; i < count; i++) {
                if (at(holds, i) == t) {
                    return i;
                }
            }
            return NONE;
        }

        int thingsOf(int traders) {
            int things = 0;
            for (int i = 0; i < count; i++) {
                if (contains(traders, i)) {
                    things |= bit(at(holds, i));
                }
            }
            return things;
        }

        int ownersWithTheirThing() {
            int owners = 0;
            for (int i = 0; i < count; i++) {
                if (at(holds, i) == i) {
                    owners++;
                }
            }
            return owners;
        }

        int sumOfRanks() {
            int sum = 0;
            for (int i = 0; i < count; i++) {
                sum += rankOfHeld(i);
            }
            return sum;
        }

        int envies() {
            int pairs = 0;
            for (int i = 0; i < count; i++) {
                for (int j = 0; j < count; j++) {
                    if (isPresent(i) && isPresent(j) && lossBy(i, at(holds, j)) < 0) {
                        pairs++;
                    }
                }
            }
            return pairs;
        }

        int reasonAgainst(int i, int j) {
            if (i == j) {
                return 1;
            }
            if (!isPresent(i)) {
                return 2;
            }
            if (!isPresent(j)) {
                return 3;
            }
            int lossOfFirst = lossBy(i, at(holds, j));
            if (lossOfFirst > 0) {
                return 4;
            }
            int lossOfSecond = lossBy(j, at(holds, i));
            if (lossOfSecond > 0) {
                return 5;
            }
            return lossOfFirst == 0 && lossOfSecond == 0 ? 6 : 0;
        }

        void swap(int i, int j) {
            int thing = at(holds, i);
            put(holds, i, at(holds, j));
            put(holds, j, thing);
        }

        /** Each of these traders holds what it gets; returns how many hold another thing then. */
        int take(Trading found, int traders) {
            int changed = 0;
            for (int i = 0; i < count; i++) {
                int thing = at(found.gets, i);
                if (contains(traders, i) && at(holds, i) != thing) {
                    put(holds, i, thing);
                    changed++;
                }
            }
            return changed;
        }

        void sendAway(int i) {
            left |= bit(i);
        }

        int sendHome() {
            left = 0;
            int changed = 0;
            for (int i = 0; i < count; i++) {
                if (at(holds, i) != i) {
                    put(holds, i, i);
                    changed++;
                }
            }
            return changed;
        }

        /** A market of so many traders at home; their ranks are put by the caller. */
        void begin(int traders) {
            count = traders;
            sendHome();
        }

        /** The caller has seen to it that there is room. */
        int addOne() {
            int added = count;
            count++;
            put(holds, added, added);
            for (int other = 0; other < added; other++) {
                putRank(added, other, 5);
                putRank(other, added, 5);
            }
            putRank(added, added, 6);
            return added;
        }
    }

    /** A save slot: what it holds counts only if it is full. */
    private static final class Slot {
        final Market saved = new Market();
        boolean isFull;
    }

    /** The states before the last actions, in rows that are used in turn. */
    private static final class History {
        private static final int MOST_STATES = 14;

        private final Market[] states = new Market[MOST_STATES];
        private int size;
        private int next;

        History() {
            for (int k = 0; k < states.length; k++) {
                states[k] = new Market();
            }
        }

        int remembered() {
            return size;
        }

        void forgetAll() {
            size = 0;
        }

        void remember(Market m) {
            if (next >= 0 && next < states.length && states[next] != null) {
                states[next].become(m);
                next = (next + 1) % MOST_STATES;
                size = Math.min(size + 1, MOST_STATES);
            }
        }

        void takeBack(Market m) {
            int last = (next + MOST_STATES - 1) % MOST_STATES;
            if (size > 0 && last >= 0 && last < states.length && states[last] != null) {
                m.become(states[last]);
                next = last;
                size--;
            }
        }
    }

    /** The text buffer, and the reading of a market from it. */
    private static final class Text {
        private static final int MOST_CHARACTERS = 70;
        private static final int END = -1;

        final int[] characters = new int[MOST_CHARACTERS];
        int length;

        boolean isFull() {
            return length >= MOST_CHARACTERS;
        }

        void add(int c) {
            if (!isFull()) {
                put(characters, length, c);
                length++;
            }
        }

        private int characterAt(int position) {
            return position >= 0 && position < length ? at(characters, position) : END;
        }

        /** The value of the digit at the position, or NONE if it is not one from lowest to highest. */
        private int digitAt(int position, int lowest, int highest) {
            int value = characterAt(position) - '0';
            return value >= lowest && value <= highest ? value : NONE;
        }

        /**
         * Reads the text into the market and returns the error position, or NONE if the text is a
         * market; with an error, the market is left half read.
         */
        int readMarket(Market into) {
            if (characterAt(0) != 'M') {
                return 0;
            }
            int traders = digitAt(1, 1, MOST_TRADERS);
            if (traders == NONE) {
                return 1;
            }
            into.begin(traders);
            int error = readRanks(into, 2);
            if (error != NONE) {
                return error;
            }
            int behindRanks = 2 + traders * traders;
            if (characterAt(behindRanks) == END) {
                return NONE;
            }
            return characterAt(behindRanks) == '/' ? readHoldings(into, behindRanks + 1) : behindRanks;
        }

        private int readRanks(Market into, int start) {
            int position = start;
            for (int i = 0; i < into.count; i++) {
                for (int t = 0; t < into.count; t++) {
                    int r = digitAt(position, 0, WORST_RANK);
                    if (r == NONE) {
                        return position;
                    }
                    into.putRank(i, t, r);
                    position++;
                }
            }
            return NONE;
        }

        private int readHoldings(Market into, int start) {
            int position = start;
            int taken = 0;
            for (int i = 0; i < into.count; i++) {
                int t = digitAt(position, 0, into.count - 1);
                if (t == NONE || contains(taken, t)) {
                    return position;
                }
                taken |= bit(t);
                put(into.holds, i, t);
                position++;
                if (characterAt(position) == '!') {
                    into.sendAway(i);
                    position++;
                }
            }
            return characterAt(position) == END ? NONE : position;
        }
    }

    /** The trading that is found for some traders and the things that they hold. */
    private static final class Trading {
        int rings;
        int rounds;
        final int[] gets = new int[MOST_TRADERS];
        final int[] roundOf = new int[MOST_TRADERS];
        final int[] ringOf = new int[MOST_TRADERS];
        final int[] firstChoice = new int[MOST_TRADERS];
        final int[] tradersOf = new int[MOST_TRADERS];
        final int[] roundOfRing = new int[MOST_TRADERS];
        private final int[] pointsAt = new int[MOST_TRADERS];

        void find(Market m, int traders) {
            forget();
            int open = traders;
            while (open != 0 && rounds < MOST_TRADERS) {
                point(m, open);
                open &= ~closeRings(m, open);
                rounds++;
            }
        }

        boolean hasRing(int k) {
            return k >= 0 && k < rings;
        }

        /** How many of its traders would get another thing than they hold. */
        int movers(Market m) {
            int moving = 0;
            for (int i = 0; i < m.count; i++) {
                int thing = at(gets, i);
                if (thing != NONE && thing != at(m.holds, i)) {
                    moving++;
                }
            }
            return moving;
        }

        int gainOf(Market m, int k) {
            int gain = 0;
            for (int i = 0; i < m.count; i++) {
                if (contains(at(tradersOf, k), i)) {
                    gain -= m.lossBy(i, at(gets, i));
                }
            }
            return gain;
        }

        private void forget() {
            rings = 0;
            rounds = 0;
            for (int i = 0; i < MOST_TRADERS; i++) {
                put(gets, i, NONE);
                put(roundOf, i, NONE);
                put(ringOf, i, NONE);
                put(firstChoice, i, NONE);
            }
        }

        private void point(Market m, int open) {
            for (int i = 0; i < m.count; i++) {
                if (contains(open, i)) {
                    int chosen = choice(m, i, open);
                    put(pointsAt, i, chosen);
                    if (rounds == 0) {
                        put(firstChoice, i, chosen);
                    }
                }
            }
        }

        /** Only what is liked better moves the choice, so that i itself wins, then the lowest. */
        private static int choice(Market m, int i, int open) {
            int best = i;
            for (int j = 0; j < m.count; j++) {
                if (contains(open, j) && m.rankBy(i, at(m.holds, j)) < m.rankBy(i, at(m.holds, best))) {
                    best = j;
                }
            }
            return best;
        }

        /** Numbers the rings of this round and returns their traders. */
        private int closeRings(Market m, int open) {
            int done = 0;
            for (int i = 0; i < m.count; i++) {
                if (contains(open & ~done, i)) {
                    int ring = ringThrough(i);
                    if (ring != 0) {
                        addRing(m, ring);
                        done |= ring;
                    }
                }
            }
            return done;
        }

        /** The traders of the ring in which first is; 0 if it only points into one. */
        private int ringThrough(int first) {
            int met = 0;
            int last = first;
            for (int step = 0; step < MOST_TRADERS; step++) {
                met |= bit(last);
                last = at(pointsAt, last);
                if (last == first) {
                    return met;
                }
            }
            return 0;
        }

        private void addRing(Market m, int ring) {
            for (int i = 0; i < m.count; i++) {
                if (contains(ring, i)) {
                    put(gets, i, at(m.holds, at(pointsAt, i)));
                    put(roundOf, i, rounds);
                    put(ringOf, i, rings);
                }
            }
            put(tradersOf, rings, ring);
            put(roundOfRing, rings, rounds);
            rings++;
        }
    }

    /** Ways to share things, one for each of some traders. */
    private static final class Sharing {
        // By trader: the things that it likes better than what it holds, alike, or not less.
        private final int[] better = new int[MOST_TRADERS];
        private final int[] alike = new int[MOST_TRADERS];
        private final int[] notLess = new int[MOST_TRADERS];
        private final int[] line = new int[MOST_TRADERS];
        private int inLine;
        // By the set of things that the first traders in line have taken: the number of ways to
        // do so, or the smallest sum of ranks for all traders who come behind them.
        private final int[] table = new int[1 << MOST_TRADERS];

        int smallestGroup(Market m, boolean much) {
            noteLikings(m);
            int best = NONE;
            for (int group = 1; group <= m.everybody(); group++) {
                boolean isSmaller = best == NONE || Integer.bitCount(group) < Integer.bitCount(best);
                if (isSmaller && couldDoBetter(m, group, much)) {
                    best = group;
                }
            }
            return best;
        }

        int countGroups(Market m, boolean much) {
            noteLikings(m);
            int groups = 0;
            for (int group = 1; group <= m.everybody(); group++) {
                if (couldDoBetter(m, group, much)) {
                    groups++;
                }
            }
            return groups;
        }

        /** Each trader owns the thing with its number, so the group is its things as well. */
        private boolean couldDoBetter(Market m, int group, boolean much) {
            lineUp(m, group);
            return much ? countWays(group, better) > 0
                : countWays(group, notLess) > countWays(group, alike);
        }

        /** If nobody likes it less, but not all alike, then somebody likes it better. */
        int countBetterWays(Market m) {
            noteLikings(m);
            lineUp(m, m.present());
            int things = m.thingsOf(m.present());
            return countWays(things, notLess) - countWays(things, alike);
        }

        private void noteLikings(Market m) {
            for (int i = 0; i < m.count; i++) {
                int likedBetter = 0;
                int likedAlike = 0;
                for (int t = 0; t < m.count; t++) {
                    int loss = m.lossBy(i, t);
                    if (loss < 0) {
                        likedBetter |= bit(t);
                    } else if (loss == 0) {
                        likedAlike |= bit(t);
                    }
                }
                put(better, i, likedBetter);
                put(alike, i, likedAlike);
                put(notLess, i, likedBetter | likedAlike);
            }
        }

        private void lineUp(Market m, int traders) {
            inLine = 0;
            for (int i = 0; i < m.count; i++) {
                if (contains(traders, i)) {
                    put(line, inLine, i);
                    inLine++;
                }
            }
        }

        /** In how many ways those in line could each get one of these things that it likes so. */
        private int countWays(int things, int[] liked) {
            for (int taken = 1; taken <= things; taken++) {
                put(table, taken, 0);
            }
            put(table, 0, 1);
            for (int taken = 0; taken < things; taken++) {
                int ways = at(table, taken);
                int next = Integer.bitCount(taken);
                if (ways != 0 && next < inLine) {
                    spread(taken, ways, at(liked, at(line, next)) & things & ~taken);
                }
            }
            return at(table, things);
        }

        private void spread(int taken, int ways, int open) {
            for (int t = 0; t < MOST_TRADERS; t++) {
                if (contains(open, t)) {
                    int then = taken | bit(t);
                    put(table, then, at(table, then) + ways);
                }
            }
        }

        int leastSum(Market m) {
            int things = m.thingsOf(m.present());
            lineUp(m, m.present());
            put(table, things, 0);
            for (int taken = things - 1; taken >= 0; taken--) {
                int next = Integer.bitCount(taken);
                if ((taken & ~things) == 0 && next < inLine) {
                    int i = at(line, next);
                    put(table, taken, sumWith(m, i, taken, bestThing(m, i, taken, things)));
                }
            }
            return at(table, 0);
        }

        /** Goes down the line that leastSum made, by its table. */
        int thingAtLeast(Market m, int i) {
            leastSum(m);
            int things = m.thingsOf(m.present());
            int taken = 0;
            for (int k = 0; k < inLine; k++) {
                int t = bestThing(m, at(line, k), taken, things);
                if (at(line, k) == i) {
                    return t;
                }
                taken |= bit(t);
            }
            return NONE;
        }

        /** The lowest thing by which i and all behind it come to their smallest sum; NONE if none is left. */
        private int bestThing(Market m, int i, int taken, int things) {
            int open = things & ~taken;
            int best = NONE;
            for (int t = 0; t < m.count; t++) {
                if (contains(open, t)
                        && (best == NONE || sumWith(m, i, taken, t) < sumWith(m, i, taken, best))) {
                    best = t;
                }
            }
            return best;
        }

        private int sumWith(Market m, int i, int taken, int t) {
            return m.rankBy(i, t) + at(table, taken | bit(t));
        }
    }

    /** The search for a thing over all that exchanges by two can lead to, the nearest first. */
    private static final class Search {
        private static final int MOST_SHARINGS = 5040;
        private static final int BITS_OF_THING = 3;
        private static final int BITS_OF_SHARING = BITS_OF_THING * MOST_TRADERS;
        private static final int BITS_OF_WORD = 64;

        // An entry has the exchanges so far above the things that the traders hold then.
        private final int[] queue = new int[MOST_SHARINGS];
        private int tail;
        // One bit for each number of a sharing.
        private final long[] met = new long[MOST_SHARINGS / BITS_OF_WORD + 1];

        /** Uses up the market that it is given. */
        int fewestExchanges(Market m, int i, int t) {
            if (!m.isPresent(i)) {
                return NONE;
            }
            if (at(m.holds, i) == t) {
                return 0;
            }
            tail = 0;
            Arrays.fill(met, 0);
            meet(m, 0);
            for (int head = 0; head < tail && head < MOST_SHARINGS; head++) {
                int entry = at(queue, head);
                int exchanges = (entry >> BITS_OF_SHARING) + 1;
                unpack(entry, m);
                if (exchangeAll(m, exchanges, i, t)) {
                    return exchanges;
                }
            }
            return NONE;
        }

        /** Tries each exchange that there can be now; returns whether one brings the thing to i. */
        private boolean exchangeAll(Market m, int exchanges, int i, int t) {
            for (int a = 0; a < m.count; a++) {
                for (int b = a + 1; b < m.count; b++) {
                    if (m.reasonAgainst(a, b) == 0) {
                        m.swap(a, b);
                        if (at(m.holds, i) == t) {
                            return true;
                        }
                        meet(m, exchanges);
                        m.swap(a, b);
                    }
                }
            }
            return false;
        }

        private void meet(Market m, int exchanges) {
            int number = numberOf(m);
            int word = number / BITS_OF_WORD;
            long bitInWord = 1L << number % BITS_OF_WORD;
            if (word >= 0 && word < met.length && (met[word] & bitInWord) == 0
                    && tail < MOST_SHARINGS) {
                met[word] |= bitInWord;
                put(queue, tail, exchanges << BITS_OF_SHARING | pack(m));
                tail++;
            }
        }

        /** Numbers the ways to hold the things of n traders without a gap, from 0 to n! - 1. */
        private static int numberOf(Market m) {
            int number = 0;
            int free = m.everybody();
            for (int i = 0; i < m.count; i++) {
                int t = at(m.holds, i);
                number = number * (m.count - i) + Integer.bitCount(free & (bit(t) - 1));
                free &= ~bit(t);
            }
            return number;
        }

        private static int pack(Market m) {
            int packed = 0;
            for (int i = 0; i < m.count; i++) {
                packed |= at(m.holds, i) << i * BITS_OF_THING;
            }
            return packed;
        }

        private static void unpack(int packed, Market m) {
            for (int i = 0; i < m.count; i++) {
                put(m.holds, i, packed >> i * BITS_OF_THING & 7);
            }
        }
    }

    /** The commands of a script, done one after the other on a market that they may change. */
    private static final class Script {
        static final int MOST_COMMANDS = 4;

        private final int[] commands = new int[MOST_COMMANDS];
        private int length;

        /** Cuts the number into n commands; returns whether nothing of it is left over. */
        boolean takes(int n, long number) {
            length = Math.min(n, MOST_COMMANDS);
            long rest = number;
            for (int k = length - 1; k >= 0; k--) {
                put(commands, k, (int) (rest % 10000));
                rest /= 10000;
            }
            return rest == 0;
        }

        /** Does the command with the index k; a command that fails changes nothing. */
        boolean succeeds(int k, Market m, Trading trading, Sharing sharing) {
            int command = k >= 0 && k < length ? at(commands, k) : 0;
            int second = command / 100 % 10;
            int third = command / 10 % 10;
            int last = command % 10;
            switch (command / 1000) {
                case 1:
                    return last == 0 && exchanges(m, second, third);
                case 2:
                    return third == 0 && last == 0 && doesRing(m, trading, second);
                case 3:
                    return second == 0 && third == 0 && last == 0 && trades(m, trading);
                case 4:
                    return third == 0 && last == 0 && leaves(m, second);
                case 5:
                    return ranks(m, second, third, last);
                case 6:
                    return second == 0 && third == 0 && last == 0 && goesHome(m);
                case 7:
                    return last == 0 && m.has(second) && m.has(third) && at(m.holds, second) == third;
                case 8:
                    return second == 0 && m.sumOfRanks() <= third * 10 + last;
                case 9:
                    return second == 0 && third <= 1 && sharing.countGroups(m, third == 1) <= last;
                default:
                    return false;
            }
        }

        private static boolean exchanges(Market m, int i, int j) {
            if (!m.has(i) || !m.has(j) || m.reasonAgainst(i, j) != 0) {
                return false;
            }
            m.swap(i, j);
            return true;
        }

        private static boolean doesRing(Market m, Trading trading, int k) {
            trading.find(m, m.present());
            if (!trading.hasRing(k)) {
                return false;
            }
            m.take(trading, at(trading.tradersOf, k));
            return true;
        }

        private static boolean trades(Market m, Trading trading) {
            trading.find(m, m.present());
            m.take(trading, m.present());
            return true;
        }

        private static boolean leaves(Market m, int i) {
            if (!m.has(i) || !m.isPresent(i)) {
                return false;
            }
            m.sendAway(i);
            return true;
        }

        private static boolean ranks(Market m, int i, int t, int r) {
            if (!m.has(i) || !m.has(t)) {
                return false;
            }
            m.putRank(i, t, r);
            return true;
        }

        private static boolean goesHome(Market m) {
            m.sendHome();
            return true;
        }
    }
}
