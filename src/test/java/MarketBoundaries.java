/** The boundaries of the promises 6 to 11, of THE MARKET and of TRADING, sentence by sentence. */
final class MarketBoundaries {
    private static final int NONE = TradeRings.NONE;
    /** Beside the numbers of four traders. */
    private static final int[] NOT_OF_FOUR = {-1, 4, 7, Integer.MIN_VALUE, Integer.MAX_VALUE};

    /** Two rings in the round 0, one in the round 1. */
    private static final String ROUNDS = "M4" + "2019" + "5417" + "6238" + "1121";
    /** All like the things in the order of their numbers. */
    private static final String QUEUE = "M7" + "0123456".repeat(7);
    /** Each of seven wants what the next one has, and otherwise nothing but the own thing. */
    static final String CIRCLE = "M7" + "5099999" + "9509999" + "9950999" + "9995099" + "9999509" + "9999950"
        + "0999995";
    /** Each of seven wants anything but the own thing. */
    static final String ENVY = "M7" + "9000000" + "0900000" + "0090000" + "0009000" + "0000900" + "0000090"
        + "0000009";
    private static final String ALL_LEFT = "/0!1!2!3!4!5!6!";

    private final Check check;
    private final Whole whole;

    MarketBoundaries(Check check) {
        this.check = check;
        whole = new Whole(check);
    }

    void all() {
        sevenTraders();
        owners();
        firstThings();
        ranksAndLikings();
        gone();
        whatIsTraded();
        rounds();
        pointing();
        rings();
        doneByRings();
        roundsGoOn();
        numbersOfRings();
        aboutNumbers();
        aboutLeast();
        aboutMost();
        aboutThoseWhoLeft();
        aboutOfNothing();
        envy();
        traderNumbers();
        traderWhoLeft();
        noTrader();
        traderOfNothing();
        rankOfThing();
        noRank();
        holderOfThing();
        noHolder();
        ringNumbers();
        noRing();
        ringOfNothing();
        reasons();
        reasonsInOrder();
        noReason();
    }

    private void abouts(String text, int... due) {
        TradeRings x = Markets.of(text);
        for (int what = 0; what < due.length; what++) {
            check.same("about(" + what + ") of " + text, x.about(what), due[what]);
        }
    }

    private void traders(String text, int what, int... due) {
        TradeRings x = Markets.of(text);
        for (int i = 0; i < due.length; i++) {
            check.same("trader(" + i + ", " + what + ") of " + text, x.trader(i, what), due[i]);
        }
    }

    private void ringsOf(String text, int[]... due) {
        TradeRings x = Markets.of(text);
        for (int k = 0; k < due.length; k++) {
            for (int what = 0; what < due[k].length; what++) {
                check.same("ring(" + k + ", " + what + ") of " + text, x.ring(k, what), due[k][what]);
            }
        }
        check.same("rings of " + text, x.about(4), due.length);
        check.noIndex("no more rings of " + text, () -> x.ring(due.length, 0));
    }

    private static Whole.Maker withRounds(String behind) {
        return () -> Markets.of(ROUNDS + behind);
    }

    // ---- THE MARKET

    private void sevenTraders() {
        check.sentence("THE MARKET",
            "There are at most 7 traders, numbered from 0 in the order in which they came");
        TradeRings x = new TradeRings();
        for (int i = 0; i < 7; i++) {
            check.same("the next trader", x.addTrader(), i);
            check.same("how many there are", x.about(0), i + 1);
        }
        check.noState("an eighth trader", x::addTrader);
        check.same("still seven", x.about(0), 7);
        check.same("the last one", x.trader(6, 0), 6);
        check.noIndex("no trader 7", () -> x.trader(7, 0));
    }

    private void owners() {
        check.sentence("THE MARKET",
            "Each brings one thing, which has the number of this trader; its owner");
        TradeRings x = Markets.of("M3" + "905" + "095" + "555" + "/102");
        check.same("who holds the own thing", x.about(2), 1);
        x.goHome();
        for (int i = 0; i < 3; i++) {
            check.same("the thing that " + i + " owns", x.trader(i, 0), i);
        }
        check.noIndex("there is no thing without an owner", () -> x.holder(3));
    }

    private void firstThings() {
        check.sentence("THE MARKET", "Each trader holds one thing, at first the own one");
        TradeRings x = Markets.of(QUEUE);
        TradeRings added = new TradeRings();
        for (int i = 0; i < 7; i++) {
            check.same("what " + i + " holds", x.trader(i, 0), i);
            check.same("who holds " + i, x.holder(i), i);
            added.addTrader();
            check.same("what " + i + " holds when added", added.trader(i, 0), i);
        }
    }

    private void ranksAndLikings() {
        check.sentence("THE MARKET", "A trader ranks each thing from 0 to 9: the smaller the rank, the better it "
            + "is liked; things with the same rank are liked alike");
        TradeRings x = Markets.of("M20990");
        check.same("the rank 0", x.rank(0, 0), 0);
        check.same("the rank 9", x.rank(0, 1), 9);
        check.noArgument("no rank 10", () -> x.setRank(0, 0, 10));
        check.same("0 better than 1", Markets.of("M21001").whyNot(0, 1), 0);
        check.same("8 better than 9", Markets.of("M29889").whyNot(0, 1), 0);
        check.same("9 worse than 8", Markets.of("M28989").whyNot(0, 1), 4);
        check.same("0 and 0 alike", Markets.of("M20000").whyNot(0, 1), 6);
        check.same("9 and 9 alike", Markets.of("M29999").whyNot(0, 1), 6);
    }

    private void gone() {
        check.sentence("THE MARKET", "A trader is present, or has left with the thing that it held then; nobody "
            + "else can get that thing any more");
        // 0 wants the thing 0, with which 1 has left.
        TradeRings x = Markets.of("M20990/10!");
        check.same("what 1 left with", x.trader(1, 0), 0);
        check.same("what 0 would get", x.trader(0, 3), 1);
        check.same("at whom 0 points", x.trader(0, 6), 0);
        check.same("why not", x.whyNot(0, 1), 3);
        check.same("by exchanges", x.fewest(0, 0), NONE);
        check.same("at the least sum", x.leastOf(0), 1);
        check.same("the least sum", x.least(), 9);
        check.same("better ways", x.betterWays(), 0);
        check.same("envy", x.about(7), 0);
        check.same("trade()", x.trade(), 0);
        check.same("doRing(0)", x.doRing(0), 0);
        check.noState("exchange(0, 1)", () -> x.exchange(0, 1));
        check.same("what 0 holds", x.trader(0, 0), 1);
        check.same("who has the thing 0", x.holder(0), 1);
    }

    // ---- TRADING

    private void whatIsTraded() {
        check.sentence("TRADING", "The trading is found for all present traders and the things that they hold, "
            + "in rounds numbered from 0; at first nobody is done");
        traders("M20990/10", 3, 0, 1);
        traders("M20990/01", 3, 0, 1);
        traders("M20990/0!1", 3, NONE, 1);
        traders("M29009/01", 3, 1, 0);
        traders("M29009/10", 3, 1, 0);
        traders("M29009/01!", 3, 0, NONE);
        // The first round is 0, and all who are present are in it.
        traders(QUEUE, 4, 0, 1, 2, 3, 4, 5, 6);
        traders(QUEUE, 6, 0, 0, 0, 0, 0, 0, 0);
    }

    private void pointing() {
        check.sentence("TRADING", "of those who hold the things it likes best of all that are held by traders who "
            + "are not done, at itself, if it is one of them, otherwise at the one with the lowest number");
        String others = "M3" + "999" + "999";
        check.same("itself, though others are lower", Markets.of(others + "111").trader(2, 6), 2);
        check.same("itself, by what it holds", Markets.of(others + "111" + "/210").trader(2, 6), 2);
        check.same("itself, by nothing but that", Markets.of(others + "990" + "/012").trader(2, 6), 2);
        check.same("the lowest of two", Markets.of(others + "115").trader(2, 6), 0);
        check.same("the lowest trader, not thing", Markets.of(others + "115" + "/102").trader(2, 6), 0);
        check.same("the lowest who is present", Markets.of(others + "115" + "/0!12").trader(2, 6), 1);
        check.same("the best, though a lower one is alike to the own", Markets.of(others + "515").trader(2, 6), 1);
        check.same("itself, if only the lowest one is alike", Markets.of(others + "565").trader(2, 6), 2);
        check.same("another one, if it is better by one", Markets.of(others + "565" + "/021").trader(2, 6), 0);
        // In the round 1 the lowest one who is not done: 0 is done, 1 and 2 are liked alike by 3.
        TradeRings x = Markets.of("M4" + "0999" + "9199" + "9919" + "0115");
        check.same("in the round 0", x.trader(3, 6), 0);
        check.same("3 is left alone in the end", x.trader(3, 4), 1);
        check.same("and keeps its thing", x.trader(3, 3), 3);
        // 1 and 2 wait for 0 and then want 3, who points at the lower one.
        TradeRings y = Markets.of("M4" + "0999" + "0951" + "0591" + "0115");
        check.same("3 gets the thing of the lower one", y.trader(3, 3), 1);
        check.same("in the round 1", y.trader(3, 4), 1);
        check.same("the lower one gets its thing", y.trader(1, 3), 3);
        check.same("the other one is done last", y.trader(2, 4), 2);
        check.same("and keeps its thing", y.trader(2, 3), 2);
    }

    private void rings() {
        check.sentence("TRADING", "A ring is a trader who points at itself, or several of whom each points at the "
            + "next one and the last at the first");
        ringsOf("M15", new int[] {1, 1, 0, 0});
        ringsOf("M29009", new int[] {3, 2, 0, 18});
        ringsOf("M3" + "990" + "099" + "909", new int[] {7, 3, 0, 27});
        ringsOf(CIRCLE, new int[] {127, 7, 0, 35});
        // 0 and 1 only point into the ring of 2 and 3.
        ringsOf("M4" + "9909" + "0999" + "9990" + "9909", new int[] {12, 2, 0, 18}, new int[] {1, 1, 1, 0},
            new int[] {2, 1, 2, 0});
    }

    private void doneByRings() {
        check.sentence("TRADING", "Then all traders of rings are done: each gets the thing that is held by the one "
            + "at whom it points");
        traders(CIRCLE, 3, 1, 2, 3, 4, 5, 6, 0);
        traders(CIRCLE, 4, 0, 0, 0, 0, 0, 0, 0);
        traders("M3" + "990" + "099" + "909", 3, 2, 0, 1);
        // All rings of a round: {0, 3} and {1, 2}.
        traders("M4" + "9990" + "9909" + "9099" + "0999", 3, 3, 2, 1, 0);
        traders("M4" + "9990" + "9909" + "9099" + "0999", 4, 0, 0, 0, 0);
        traders("M15", 3, 0);
    }

    private void rounds() {
        check.sentence("TRADING", "In each round, each trader who is not done points at a trader who is not done");
        // In the round 1 nobody points at 0 any more, though all like its thing best.
        TradeRings x = Markets.of(QUEUE);
        for (int i = 0; i < 7; i++) {
            check.same("what " + i + " gets", x.trader(i, 3), i);
        }
        traders(ROUNDS, 3, 0, 2, 1, 3);
    }

    private void roundsGoOn() {
        check.sentence("TRADING", "Rounds go on until all are done");
        abouts(QUEUE, 7, 7, 7, 21, 7, 7, 0, 21);
        abouts(CIRCLE, 7, 7, 7, 35, 1, 1, 7, 7);
        abouts(ROUNDS + "/0!1!2!3!", 4, 0, 4, 10, 0, 0, 0, 0);
        traders(ENVY, 4, 0, 0, 1, 1, 2, 2, 3);
        traders(ENVY, 3, 1, 0, 3, 2, 5, 4, 6);
    }

    private void numbersOfRings() {
        check.sentence("TRADING",
            "Rings are numbered from 0 by their rounds, those of one round by their lowest traders");
        ringsOf("M4" + "9990" + "9909" + "9099" + "0999", new int[] {9, 2, 0, 18}, new int[] {6, 2, 0, 18});
        ringsOf("M4" + "5123" + "9810" + "9180" + "9990", new int[] {8, 1, 0, 0}, new int[] {6, 2, 1, 14},
            new int[] {1, 1, 2, 0});
        traders("M4" + "5123" + "9810" + "9180" + "9990", 5, 2, 1, 1, 0);
        traders(QUEUE, 5, 0, 1, 2, 3, 4, 5, 6);
        traders(ROUNDS, 5, 2, 0, 0, 1);
    }

    // ---- promise 6

    private void aboutNumbers() {
        check.sentence("6", "- what: 0: the number of traders; 1: of present ones; 2: of traders who hold (or left "
            + "with) the thing that they own; 3: the ranks of all things together, each by the trader who holds it "
            + "or left with it; 4: the number of rings of the trading; 5: of its rounds; 6: of present traders who "
            + "would get another thing by it than they hold; 7: of pairs of which the first envies the second");
        abouts(ROUNDS, 4, 4, 4, 10, 3, 2, 2, 4);
        abouts("M15", 1, 1, 1, 5, 1, 1, 0, 0);
        abouts("M20990/10", 2, 2, 0, 18, 1, 1, 2, 2);
    }

    private void aboutLeast() {
        abouts("M10/0!", 1, 0, 1, 0, 0, 0, 0, 0);
        abouts("M7" + "0".repeat(49), 7, 7, 7, 0, 7, 1, 0, 0);
        abouts("M7" + "0".repeat(49) + "/1234560", 7, 7, 0, 0, 7, 1, 0, 0);
        abouts("M25555/10", 2, 2, 0, 10, 2, 1, 0, 0);
    }

    private void aboutMost() {
        abouts("M7" + "9".repeat(49), 7, 7, 7, 63, 7, 1, 0, 0);
        abouts(ENVY, 7, 7, 7, 63, 4, 4, 6, 42);
        abouts(QUEUE + "/6543210", 7, 7, 1, 21, 7, 7, 0, 21);
        abouts(CIRCLE + "/1234560", 7, 7, 0, 0, 7, 1, 0, 0);
    }

    private void aboutThoseWhoLeft() {
        // They count as traders, by what they left with and by its rank, but they do not trade.
        abouts(ENVY + ALL_LEFT, 7, 0, 7, 63, 0, 0, 0, 0);
        abouts(ENVY + "/0!1!2!3!4!56!", 7, 1, 7, 63, 1, 1, 0, 0);
        abouts(ENVY + "/0!1!2!3!4!56", 7, 2, 7, 63, 1, 1, 2, 2);
        abouts("M3" + "123" + "456" + "789" + "/2!01!", 3, 1, 0, 3 + 4 + 8, 1, 1, 0, 0);
    }

    private void aboutOfNothing() {
        check.sentence("6", "Throws IllegalArgumentException if what is not 0 to 7");
        int[] whats = {-1, 8, Integer.MIN_VALUE, Integer.MAX_VALUE, -9};
        for (int what : whats) {
            whole.noArgument("about(" + what + ")", Whole::rich, x -> x.about(what));
            whole.noArgument("about(" + what + ") without traders", TradeRings::new, x -> x.about(what));
        }
    }

    private void envy() {
        check.sentence("GROUPS", "A trader envies another one if both are present and it likes the thing that the "
            + "other one holds better than its own");
        check.same("better by one", Markets.of("M26599").about(7), 1);
        check.same("alike", Markets.of("M25599").about(7), 0);
        check.same("less by one", Markets.of("M25699").about(7), 0);
        check.same("both of them", Markets.of("M29009").about(7), 2);
        check.same("by what they hold", Markets.of("M29009/10").about(7), 0);
        check.same("the first one has left", Markets.of("M29009/0!1").about(7), 0);
        check.same("the second one has left", Markets.of("M29009/01!").about(7), 0);
        check.same("both have left", Markets.of("M29009/0!1!").about(7), 0);
    }

    // ---- promise 7

    private void traderNumbers() {
        check.sentence("7", "- what: 0: the thing that it holds or left with; 1: its rank of that thing; 2: 1 if it "
            + "is present, otherwise 0; 3: the thing that it would get by the trading; 4: the round in which it "
            + "would be done; 5: the number of its ring; 6: the trader at whom it points in the round 0");
        int[][] atHome = {{0, 1, 2, 3}, {2, 4, 3, 1}, {1, 1, 1, 1}, {0, 2, 1, 3}, {1, 0, 0, 0}, {2, 0, 0, 1},
            {1, 2, 1, 3}};
        int[][] away = {{3, 2, 1, 0}, {9, 1, 2, 1}, {1, 1, 1, 1}, {3, 2, 1, 0}, {1, 0, 0, 0}, {3, 0, 1, 2},
            {2, 1, 2, 3}};
        for (int what = 0; what <= 6; what++) {
            traders(ROUNDS, what, atHome[what]);
            traders(ROUNDS + "/3210", what, away[what]);
        }
        // In the round 0, though it gets another one's thing in a later one.
        traders("M4" + "5123" + "9810" + "9180" + "9990", 6, 1, 3, 3, 3);
        traders("M7" + "9".repeat(49), 5, 0, 1, 2, 3, 4, 5, 6);
    }

    private void traderWhoLeft() {
        check.sentence("7", "3 to 6: NONE if it has left");
        int[] due = {2, 3, 0, NONE, NONE, NONE, NONE};
        TradeRings x = Markets.of("M3" + "123" + "456" + "789" + "/2!01!");
        for (int what = 0; what <= 6; what++) {
            check.same("trader(0, " + what + ")", x.trader(0, what), due[what]);
        }
        int[] alone = {0, 4, 1, 0, 0, 0, 1};
        for (int what = 0; what <= 6; what++) {
            check.same("trader(1, " + what + ")", x.trader(1, what), alone[what]);
        }
        traders(CIRCLE + ALL_LEFT, 6, NONE, NONE, NONE, NONE, NONE, NONE, NONE);
    }

    private void noTrader() {
        check.sentence("7", "Throws IndexOutOfBoundsException if there is no such trader");
        for (int i : NOT_OF_FOUR) {
            for (int what = -1; what <= 7; what++) {
                int w = what;
                whole.noIndex("trader(" + i + ", " + w + ")", withRounds("/01!23"), x -> x.trader(i, w));
            }
        }
    }

    private void traderOfNothing() {
        check.sentence("7", "Throws IllegalArgumentException if what is not 0 to 6");
        int[] whats = {-1, 7, Integer.MIN_VALUE, Integer.MAX_VALUE, -9};
        for (int what : whats) {
            whole.noArgument("trader(0, " + what + ")", withRounds("/01!23"), x -> x.trader(0, what));
            whole.noArgument("trader(3, " + what + ")", withRounds("/01!23"), x -> x.trader(3, what));
            whole.noArgument("trader(1, " + what + ") who left", withRounds("/01!23"), x -> x.trader(1, what));
        }
    }

    // ---- promises 8 and 9

    private void rankOfThing() {
        check.sentence("8", "Returns the rank of this thing for this trader");
        TradeRings x = Markets.of("M3" + "012" + "345" + "679" + "/2!01!");
        for (int k = 0; k < 9; k++) {
            check.same("rank(" + k / 3 + ", " + k % 3 + ")", x.rank(k / 3, k % 3), k == 8 ? 9 : k);
        }
        TradeRings seven = Markets.of("M7" + "9".repeat(48) + "0");
        check.same("rank(6, 6)", seven.rank(6, 6), 0);
        check.same("rank(6, 5)", seven.rank(6, 5), 9);
    }

    private void noRank() {
        check.sentence("8", "Throws IndexOutOfBoundsException if there is no such trader or thing");
        for (int no : NOT_OF_FOUR) {
            whole.noIndex("rank(" + no + ", 0)", withRounds(""), x -> x.rank(no, 0));
            whole.noIndex("rank(0, " + no + ")", withRounds(""), x -> x.rank(0, no));
            whole.noIndex("rank(3, " + no + ")", withRounds(""), x -> x.rank(3, no));
            whole.noIndex("rank(" + no + ", 3)", withRounds(""), x -> x.rank(no, 3));
            whole.noIndex("rank(" + no + ", " + no + ")", withRounds(""), x -> x.rank(no, no));
        }
        check.noIndex("rank(7, 6) of seven", () -> Markets.of(QUEUE).rank(7, 6));
        check.noIndex("rank(6, 7) of seven", () -> Markets.of(QUEUE).rank(6, 7));
    }

    private void holderOfThing() {
        check.sentence("9", "Returns the trader who holds it or left with it");
        TradeRings x = Markets.of(QUEUE + "/12!3456!0");
        int[] due = {6, 0, 1, 2, 3, 4, 5};
        for (int t = 0; t < 7; t++) {
            check.same("holder(" + t + ")", x.holder(t), due[t]);
        }
        check.same("alone", Markets.of("M15/0!").holder(0), 0);
    }

    private void noHolder() {
        check.sentence("9", "Throws IndexOutOfBoundsException if there is no such thing");
        for (int no : NOT_OF_FOUR) {
            whole.noIndex("holder(" + no + ")", withRounds(""), x -> x.holder(no));
        }
        check.noIndex("holder(7) of seven", () -> Markets.of(QUEUE).holder(7));
    }

    // ---- promise 10

    private void ringNumbers() {
        check.sentence("10", "- what: 0: its traders, bit i set for the trader i; 1: how many they are; 2: its "
            + "round; 3: by how much the ranks of what its traders hold, together, are more than those of what "
            + "they would get");
        ringsOf(CIRCLE, new int[] {127, 7, 0, 35});
        ringsOf(CIRCLE.replace('5', '9'), new int[] {127, 7, 0, 63});
        ringsOf(QUEUE, new int[] {1, 1, 0, 0}, new int[] {2, 1, 1, 0}, new int[] {4, 1, 2, 0},
            new int[] {8, 1, 3, 0}, new int[] {16, 1, 4, 0}, new int[] {32, 1, 5, 0}, new int[] {64, 1, 6, 0});
        // By what they hold, not own: 6 holds the thing 0.
        ringsOf("M20990/10", new int[] {3, 2, 0, 18});
        ringsOf(QUEUE + "/6543210", new int[] {64, 1, 0, 0}, new int[] {32, 1, 1, 0}, new int[] {16, 1, 2, 0},
            new int[] {8, 1, 3, 0}, new int[] {4, 1, 4, 0}, new int[] {2, 1, 5, 0}, new int[] {1, 1, 6, 0});
        ringsOf("M29009/1!0!");
    }

    private void noRing() {
        check.sentence("10", "Throws IndexOutOfBoundsException if there is no such ring");
        int[] rings = {-1, 3, 4, 7, Integer.MIN_VALUE, Integer.MAX_VALUE};
        for (int k : rings) {
            for (int what = -1; what <= 4; what++) {
                int w = what;
                whole.noIndex("ring(" + k + ", " + w + ")", withRounds(""), x -> x.ring(k, w));
            }
        }
        check.same("the last one", Markets.of(QUEUE).ring(6, 0), 64);
        check.noIndex("ring(7, 0) of seven", () -> Markets.of(QUEUE).ring(7, 0));
        check.noIndex("ring(1, 0) of one", () -> Markets.of(CIRCLE).ring(1, 0));
        check.noIndex("ring(0, 0) when all have left", () -> Markets.of(CIRCLE + ALL_LEFT).ring(0, 0));
    }

    private void ringOfNothing() {
        check.sentence("10", "Throws IllegalArgumentException if what is not 0 to 3");
        int[] whats = {-1, 4, Integer.MIN_VALUE, Integer.MAX_VALUE, -9};
        for (int what : whats) {
            whole.noArgument("ring(0, " + what + ")", withRounds(""), x -> x.ring(0, what));
            whole.noArgument("ring(2, " + what + ")", withRounds(""), x -> x.ring(2, what));
        }
    }

    // ---- promise 11

    private void reason(String text, int i, int j, int due) {
        check.same("whyNot(" + i + ", " + j + ") of " + text, Markets.of(text).whyNot(i, j), due);
    }

    private void reasons() {
        check.sentence("11", "Returns 0 if they can");
        reason("M25115", 0, 1, 0);
        reason("M25115", 1, 0, 0);
        reason("M25455", 0, 1, 0);
        reason("M25545", 0, 1, 0);
        reason("M20990/10", 0, 1, 0);
    }

    /** Each reason where all those behind it that can stand beside it apply too. */
    private void reasonsInOrder() {
        check.sentence("11", "otherwise the first one of these that applies: 1: both are the same; 2: i has left; "
            + "3: j has left; 4: i would like what it gets less than what it holds; 5: so would j; 6: neither of "
            + "them would like it better");
        reason("M20990/0!1!", 0, 0, 1);
        reason("M20990", 1, 1, 1);
        reason("M20990/0!1!", 0, 1, 2);
        reason("M20990/0!1", 0, 1, 2);
        reason("M29009/0!1", 0, 1, 2);
        reason("M20990/01!", 0, 1, 3);
        reason("M29009/01!", 0, 1, 3);
        reason("M20990", 0, 1, 4);
        reason("M25655", 0, 1, 4);
        reason("M25615", 0, 1, 4);
        reason("M25665", 0, 1, 4);
        reason("M25565", 0, 1, 5);
        reason("M25165", 0, 1, 5);
        reason("M25565", 1, 0, 4);
        reason("M25655", 1, 0, 5);
        reason("M25555", 0, 1, 6);
        reason("M29999/10", 1, 0, 6);
    }

    private void noReason() {
        check.sentence("11", "Throws IndexOutOfBoundsException if there is no such trader");
        for (int no : NOT_OF_FOUR) {
            whole.noIndex("whyNot(" + no + ", 0)", withRounds("/0!123"), x -> x.whyNot(no, 0));
            whole.noIndex("whyNot(0, " + no + ")", withRounds("/0!123"), x -> x.whyNot(0, no));
            whole.noIndex("whyNot(" + no + ", " + no + ")", withRounds("/0!123"), x -> x.whyNot(no, no));
        }
        check.noIndex("whyNot(7, 0) of seven", () -> Markets.of(QUEUE).whyNot(7, 0));
        check.noIndex("whyNot(6, 7) of seven", () -> Markets.of(QUEUE).whyNot(6, 7));
    }
}
