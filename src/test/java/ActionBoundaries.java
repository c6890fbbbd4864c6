/** The boundaries of the promises 12 to 19 and of ACTIONS AND UNDO, sentence by sentence. */
final class ActionBoundaries {
    private static final int[] NOT_OF_THREE = {-1, 3, 7, Integer.MIN_VALUE, Integer.MAX_VALUE};
    private static final String SEVEN = "M7" + "9".repeat(49);
    private static final String CIRCLE = MarketBoundaries.CIRCLE;
    private static final String ALL_LEFT = "/0!1!2!3!4!5!6!";
    /** Two rings of two in one round: {0, 1} and {2, 3}. */
    private static final String PAIRS = "M4" + "9099" + "0999" + "9990" + "9909";

    private final Check check;
    private final Whole whole;

    ActionBoundaries(Check check) {
        this.check = check;
        whole = new Whole(check);
    }

    void all() {
        addTrader();
        addTraderRanks();
        addTraderAnew();
        addTraderNumber();
        addTraderToSeven();
        setRank();
        setRankAnswers();
        setRankOfNobody();
        setRankOutOfRange();
        exchange();
        exchangeAnswers();
        exchangeOfNobody();
        exchangeThatCannotBe();
        doRing();
        doRingAnswers();
        doNoRing();
        trade();
        tradeAnswers();
        leave();
        leaveAnswers();
        leaveOfNobody();
        leaveAgain();
        goHome();
        goHomeAnswers();
        undo();
        undoAnswers();
        undoOfNothing();
        whatTheStateIs();
        actionsWithoutEffect();
        undoIsNone();
        stateBeforeEachAction();
        fourteenStates();
        oldestForgotten();
        manyStates();
        whatIsNoAction();
    }

    private void now(TradeRings x, String what, String due) {
        String picture = Markets.picture(x);
        check.same(what, picture.substring(0, picture.indexOf(' ')), due);
    }

    // ---- promise 12

    private void addTrader() {
        check.sentence("12", "Adds a trader, who owns and holds a thing with its number and is present");
        TradeRings x = new TradeRings();
        x.addTrader();
        now(x, "the first one", "M16/0");
        x.addTrader();
        now(x, "the second one", "M26556/01");
        TradeRings left = Markets.of("M20123/1!0!");
        left.addTrader();
        now(left, "behind those who left and hold each other's things", "M3015235556/1!0!2");
        check.same("who owns the new thing", left.about(2), 1);
    }

    private void addTraderRanks() {
        check.sentence("12", "It ranks all things 5, but the own one 6; all others rank its thing 5");
        TradeRings x = new TradeRings();
        for (int i = 0; i < 7; i++) {
            x.addTrader();
        }
        for (int i = 0; i < 7; i++) {
            for (int t = 0; t < 7; t++) {
                check.same("rank(" + i + ", " + t + ")", x.rank(i, t), i == t ? 6 : 5);
            }
        }
        TradeRings old = Markets.of("M6" + "0".repeat(36));
        old.addTrader();
        now(old, "behind six", "M7" + "0000005".repeat(6) + "5555556" + "/0123456");
    }

    /** What was of a trader with this number before does not count. */
    private void addTraderAnew() {
        TradeRings x = Markets.of("M15");
        x.addTrader();
        x.setRank(0, 1, 0);
        x.setRank(1, 0, 1);
        x.setRank(1, 1, 2);
        x.exchange(0, 1);
        x.leave(1);
        Markets.remembered(x);
        now(x, "it is not there any more", "M15/0");
        x.addTrader();
        now(x, "added again", "M25556/01");
        TradeRings smaller = Markets.of("M3" + "000" + "000" + "000" + "/2!1!0!");
        smaller.clearText();
        Markets.write(smaller, "M19/0!");
        smaller.load();
        smaller.addTrader();
        smaller.addTrader();
        now(smaller, "behind a smaller market", "M3955565556/0!12");
    }

    private void addTraderNumber() {
        check.sentence("12", "Returns its number");
        TradeRings x = new TradeRings();
        for (int i = 0; i < 7; i++) {
            check.same("addTrader()", x.addTrader(), i);
        }
        x.undo();
        check.same("addTrader() behind undo", x.addTrader(), 6);
        check.same("addTrader() when all have left", Markets.of("M29999/1!0!").addTrader(), 2);
    }

    private void addTraderToSeven() {
        check.sentence("12", "Throws IllegalStateException if there are 7 traders");
        whole.noState("addTrader()", () -> Markets.of(SEVEN), TradeRings::addTrader);
        whole.noState("addTrader() when all have left", () -> Markets.of(SEVEN + ALL_LEFT), TradeRings::addTrader);
        TradeRings x = Markets.of("M6" + "9".repeat(36));
        check.same("addTrader() to six", x.addTrader(), 6);
        check.noState("addTrader() to seven", x::addTrader);
        check.same("it is not remembered", x.undo(), 0);
        check.same("six again", x.about(0), 6);
    }

    // ---- promise 13

    private void setRank() {
        check.sentence("13", "Changes a rank");
        TradeRings x = Markets.of("M3" + "555" + "555" + "555" + "/1!20!");
        for (int k = 0; k < 9; k++) {
            x.setRank(k / 3, k % 3, k);
        }
        now(x, "all are changed, of those who left too", "M3012345678/1!20!");
        TradeRings seven = Markets.of(SEVEN);
        seven.setRank(6, 6, 0);
        seven.setRank(0, 6, 1);
        now(seven, "the last ones", "M7" + "9999991" + "9".repeat(41) + "0" + "/0123456");
    }

    private void setRankAnswers() {
        check.sentence("13", "Returns the previous rank");
        TradeRings x = Markets.of("M20123/10!");
        check.same("of 0 for 9", x.setRank(0, 0, 9), 0);
        check.same("of 9 for 0", x.setRank(0, 0, 0), 9);
        check.same("the same rank", x.setRank(0, 0, 0), 0);
        check.same("of one who left", x.setRank(1, 0, 7), 2);
        check.same("of one who left, again", x.setRank(1, 0, 8), 7);
    }

    private void setRankOfNobody() {
        check.sentence("13", "Throws IndexOutOfBoundsException if there is no such trader or thing");
        for (int no : NOT_OF_THREE) {
            whole.noIndex("setRank(" + no + ", 0, 5)", Whole::rich, x -> x.setRank(no, 0, 5));
            whole.noIndex("setRank(0, " + no + ", 5)", Whole::rich, x -> x.setRank(0, no, 5));
            whole.noIndex("setRank(2, " + no + ", 5)", Whole::rich, x -> x.setRank(2, no, 5));
            whole.noIndex("setRank(" + no + ", 0, 10)", Whole::rich, x -> x.setRank(no, 0, 10));
            whole.noIndex("setRank(0, " + no + ", -1)", Whole::rich, x -> x.setRank(0, no, -1));
        }
        check.noIndex("setRank(7, 6, 0) of seven", () -> Markets.of(SEVEN).setRank(7, 6, 0));
        check.noIndex("setRank(6, 7, 0) of seven", () -> Markets.of(SEVEN).setRank(6, 7, 0));
    }

    private void setRankOutOfRange() {
        check.sentence("13", "- r: 0 to 9");
        TradeRings x = Markets.of("M15");
        for (int r = 0; r <= 9; r++) {
            x.setRank(0, 0, r);
            check.same("the rank then", x.rank(0, 0), r);
        }
        check.sentence("13", "Throws IllegalArgumentException if r is out of range");
        int[] ranks = {-1, 10, Integer.MIN_VALUE, Integer.MAX_VALUE, -9};
        for (int r : ranks) {
            whole.noArgument("setRank(0, 0, " + r + ")", Whole::rich, y -> y.setRank(0, 0, r));
            whole.noArgument("setRank(2, 2, " + r + ")", Whole::rich, y -> y.setRank(2, 2, r));
        }
    }

    // ---- promise 14

    private void exchange() {
        check.sentence("14", "Two traders exchange what they hold");
        TradeRings x = Markets.of(PAIRS);
        x.exchange(3, 2);
        now(x, "only these two", PAIRS + "/0132");
        x.exchange(0, 1);
        now(x, "the others too", PAIRS + "/1032");
        TradeRings held = Markets.of("M3" + "099" + "995" + "909" + "/201!");
        check.noState("with one who left", () -> held.exchange(0, 2));
        held.setRank(1, 2, 0);
        held.exchange(0, 1);
        now(held, "what they hold, not own", "M3" + "099" + "990" + "909" + "/021!");
    }

    private void exchangeAnswers() {
        check.sentence("14", "Returns the thing that i holds then");
        check.same("exchange(0, 1)", Markets.of("M29009").exchange(0, 1), 1);
        check.same("exchange(1, 0)", Markets.of("M29009").exchange(1, 0), 0);
        check.same("exchange(0, 1) of things held", Markets.of("M20990/10").exchange(0, 1), 0);
        check.same("exchange(2, 3)", Markets.of(PAIRS).exchange(2, 3), 3);
        check.same("the last ones", Markets.of("M7" + "9".repeat(41) + "0" + "9".repeat(7)).exchange(5, 6), 6);
    }

    private void exchangeOfNobody() {
        check.sentence("14", "Throws IndexOutOfBoundsException if there is no such trader");
        for (int no : NOT_OF_THREE) {
            whole.noIndex("exchange(" + no + ", 0)", Whole::rich, x -> x.exchange(no, 0));
            whole.noIndex("exchange(0, " + no + ")", Whole::rich, x -> x.exchange(0, no));
            whole.noIndex("exchange(2, " + no + ") of one who left", Whole::rich, x -> x.exchange(2, no));
            whole.noIndex("exchange(" + no + ", " + no + ")", Whole::rich, x -> x.exchange(no, no));
        }
        check.noIndex("exchange(7, 0) of seven", () -> Markets.of(SEVEN).exchange(7, 0));
    }

    private void exchangeThatCannotBe() {
        check.sentence("14", "Throws IllegalStateException if they cannot (see whyNot)");
        String[] texts = {"M20990", "M29009/0!1", "M29009/01!", "M25615", "M25165", "M25555", "M29009/10"};
        int[] reasons = {4, 2, 3, 4, 5, 6, 4};
        for (int k = 0; k < texts.length; k++) {
            String text = texts[k];
            check.same("the reason of " + text, Markets.of(text).whyNot(0, 1), reasons[k]);
            whole.noState("exchange(0, 1) of " + text, () -> Markets.of(text), x -> x.exchange(0, 1));
        }
        whole.noState("exchange(0, 0)", Whole::rich, x -> x.exchange(0, 0));
        whole.noState("exchange(2, 2) of one who left", Whole::rich, x -> x.exchange(2, 2));
        whole.noState("exchange(2, 0) of one who left", Whole::rich, x -> x.exchange(2, 0));
        whole.noState("exchange(0, 2) with one who left", Whole::rich, x -> x.exchange(0, 2));
    }

    // ---- promise 15

    private void doRing() {
        check.sentence("15", "Does a ring of the trading: each of its traders holds what it gets then; all others "
            + "hold what they held");
        TradeRings first = Markets.of(PAIRS);
        first.doRing(0);
        now(first, "the first one of two", PAIRS + "/1023");
        TradeRings last = Markets.of(PAIRS);
        last.doRing(1);
        now(last, "the last one of two", PAIRS + "/0132");
        // Rings of later rounds, too: {2, 3} and {4, 5} behind {0, 1}.
        TradeRings later = Markets.of(MarketBoundaries.ENVY);
        later.doRing(1);
        now(later, "one of the round 1", MarketBoundaries.ENVY + "/0132456");
        TradeRings latest = Markets.of(MarketBoundaries.ENVY);
        latest.doRing(2);
        now(latest, "one of the round 2", MarketBoundaries.ENVY + "/0123546");
        TradeRings seven = Markets.of(CIRCLE);
        seven.doRing(0);
        now(seven, "all seven", CIRCLE + "/1234560");
        TradeRings alone = Markets.of("M3" + "909" + "909" + "009" + "/1!20");
        alone.doRing(1);
        now(alone, "one alone", "M3" + "909" + "909" + "009" + "/1!20");
    }

    private void doRingAnswers() {
        check.sentence("15", "Returns how many traders hold another thing then");
        check.same("none of one", Markets.of("M15").doRing(0), 0);
        check.same("none of the last one of seven", Markets.of(SEVEN).doRing(6), 0);
        check.same("two", Markets.of(PAIRS).doRing(1), 2);
        check.same("three", Markets.of("M3" + "990" + "099" + "909").doRing(0), 3);
        check.same("all seven", Markets.of(CIRCLE).doRing(0), 7);
    }

    private void doNoRing() {
        check.sentence("15", "Throws IndexOutOfBoundsException if there is no such ring");
        int[] rings = {-1, 1, 2, 7, Integer.MIN_VALUE, Integer.MAX_VALUE};
        check.same("one ring of the two who are present", Whole.rich().about(4), 1);
        for (int k : rings) {
            whole.noIndex("doRing(" + k + ")", Whole::rich, x -> x.doRing(k));
        }
        check.noIndex("doRing(7) of seven", () -> Markets.of(SEVEN).doRing(7));
        check.noIndex("doRing(1) of one", () -> Markets.of(CIRCLE).doRing(1));
        check.noIndex("doRing(0) when all have left", () -> Markets.of(SEVEN + ALL_LEFT).doRing(0));
    }

    // ---- promise 16

    private void trade() {
        check.sentence("16", "Does the trading: each present trader holds what it gets then");
        TradeRings pairs = Markets.of(PAIRS);
        pairs.trade();
        now(pairs, "all rings", PAIRS + "/1032");
        TradeRings left = Markets.of(PAIRS + "/0!123");
        left.trade();
        now(left, "without one who left", PAIRS + "/0!132");
        TradeRings nobody = Markets.of(CIRCLE + ALL_LEFT);
        nobody.trade();
        now(nobody, "nobody is present", CIRCLE + ALL_LEFT);
        TradeRings later = Markets.of("M4" + "5123" + "9810" + "9180" + "9990");
        later.trade();
        now(later, "rings of later rounds", "M4" + "5123" + "9810" + "9180" + "9990" + "/0213");
    }

    private void tradeAnswers() {
        check.sentence("16", "Returns how many traders hold another thing then");
        check.same("without traders", new TradeRings().trade(), 0);
        check.same("nobody is present", Markets.of(CIRCLE + ALL_LEFT).trade(), 0);
        check.same("all seven", Markets.of(CIRCLE).trade(), 7);
        check.same("six of seven", Markets.of(MarketBoundaries.ENVY).trade(), 6);
        check.same("none of seven", Markets.of(SEVEN).trade(), 0);
        check.same("a ring of one does not count", Markets.of("M3" + "909" + "099" + "990").trade(), 2);
        TradeRings x = Markets.of(CIRCLE);
        x.trade();
        check.same("once more", x.trade(), 0);
    }

    // ---- promise 17

    private void leave() {
        check.sentence("17", "A trader leaves with the thing that it holds");
        TradeRings x = Markets.of("M29009");
        x.trade();
        x.leave(1);
        now(x, "not with the thing that it owns", "M29009/10!");
        x.leave(0);
        now(x, "the other one too", "M29009/1!0!");
    }

    private void leaveAnswers() {
        check.sentence("17", "Returns the number of traders who are still present");
        TradeRings x = Markets.of(SEVEN);
        for (int i = 6; i >= 0; i--) {
            check.same("leave(" + i + ")", x.leave(i), i);
        }
        check.same("alone", Markets.of("M15").leave(0), 0);
    }

    private void leaveOfNobody() {
        check.sentence("17", "Throws IndexOutOfBoundsException if there is no such trader");
        for (int no : NOT_OF_THREE) {
            whole.noIndex("leave(" + no + ")", Whole::rich, x -> x.leave(no));
        }
        check.noIndex("leave(7) of seven", () -> Markets.of(SEVEN).leave(7));
    }

    private void leaveAgain() {
        check.sentence("17", "Throws IllegalStateException if it has left");
        whole.noState("leave(2)", Whole::rich, x -> x.leave(2));
        whole.noState("leave(0) of a text", () -> Markets.of("M15/0!"), x -> x.leave(0));
        TradeRings x = Markets.of(SEVEN);
        for (int i = 0; i < 7; i++) {
            int left = i;
            x.leave(i);
            check.noState("leave(" + i + ") again", () -> x.leave(left));
        }
        x.goHome();
        check.same("back, it can leave again", x.leave(0), 6);
    }

    // ---- promise 18

    private void goHome() {
        check.sentence("18", "All traders are present again, and each holds the thing that it owns");
        TradeRings x = Markets.of(CIRCLE + "/1!2!3!4!5!6!0!");
        x.goHome();
        now(x, "all seven", CIRCLE + "/0123456");
        TradeRings left = Markets.of("M20123/01!");
        left.goHome();
        now(left, "one who left with its own thing", "M20123/01");
        TradeRings alone = Markets.of("M15/0!");
        alone.goHome();
        now(alone, "one alone", "M15/0");
    }

    private void goHomeAnswers() {
        check.sentence("18", "Returns how many traders hold another thing then");
        check.same("without traders", new TradeRings().goHome(), 0);
        check.same("all at home", Markets.of(SEVEN).goHome(), 0);
        check.same("all left with their own things", Markets.of(SEVEN + ALL_LEFT).goHome(), 0);
        check.same("all seven", Markets.of(SEVEN + "/1234560").goHome(), 7);
        check.same("all seven who left", Markets.of(SEVEN + "/1!2!3!4!5!6!0!").goHome(), 7);
        check.same("two of seven", Markets.of(SEVEN + "/012346!5").goHome(), 2);
    }

    // ---- promise 19

    private void undo() {
        check.sentence("19", "Takes back the last action that is remembered");
        TradeRings x = Markets.of("M15");
        x.setRank(0, 0, 1);
        x.setRank(0, 0, 2);
        x.undo();
        check.same("the last one", x.rank(0, 0), 1);
        x.undo();
        check.same("the one before it", x.rank(0, 0), 5);
    }

    private void undoAnswers() {
        check.sentence("19", "Returns how many states are still remembered");
        TradeRings x = Markets.of("M15");
        for (int k = 0; k < 20; k++) {
            x.goHome();
        }
        for (int states = 13; states >= 0; states--) {
            check.same("undo()", x.undo(), states);
        }
    }

    private void undoOfNothing() {
        check.sentence("19", "Throws IllegalStateException if none is remembered");
        whole.noState("undo() of a new object", TradeRings::new, TradeRings::undo);
        whole.noState("undo() behind load", () -> Markets.of(CIRCLE + ALL_LEFT), TradeRings::undo);
        whole.noState("undo() behind restore", () -> {
            TradeRings x = Whole.rich();
            x.restore(0);
            return x;
        }, TradeRings::undo);
        whole.noState("undo() behind all others", () -> {
            TradeRings x = Markets.of("M15");
            x.leave(0);
            x.undo();
            return x;
        }, TradeRings::undo);
    }

    // ---- ACTIONS AND UNDO

    private void whatTheStateIs() {
        check.sentence("ACTIONS AND UNDO", "The methods in the section \"actions\" change the state, which consists "
            + "of everything but the text and the save slots");
        TradeRings x = Markets.of("M15");
        x.leave(0);
        x.append('x');
        x.save(0);
        x.goHome();
        x.save(1);
        x.undo();
        x.undo();
        now(x, "both actions are taken back", "M15/0");
        check.same("the text is not", x.errorPosition(), 3);
        x.restore(0);
        now(x, "the slot 0 is not", "M15/0!");
        x.restore(1);
        now(x, "the slot 1 is not", "M15/0");
        TradeRings cleared = Markets.of("M15");
        cleared.leave(0);
        cleared.clearText();
        cleared.undo();
        check.same("a cleared text stays so", cleared.clearText(), 0);
    }

    private void actionsWithoutEffect() {
        check.sentence("ACTIONS AND UNDO", "Each call of one of them that does not throw an exception is an action, "
            + "also if nothing becomes different (undo is none)");
        Whole.Call[] calls = {x -> x.setRank(0, 0, 5), x -> x.trade(), x -> x.goHome(), x -> x.doRing(0),
            x -> x.doRing(1)};
        for (int k = 0; k < calls.length; k++) {
            TradeRings x = Markets.of("M25555");
            calls[k].on(x);
            now(x, "nothing is different", "M25555/01");
            check.same("but the call " + k + " is remembered", x.undo(), 0);
        }
        TradeRings none = new TradeRings();
        none.trade();
        none.goHome();
        check.same("both are remembered without traders", none.undo(), 1);
        TradeRings left = Markets.of("M15/0!");
        left.trade();
        check.same("and when nobody is present", left.undo(), 0);
    }

    private void undoIsNone() {
        TradeRings x = Markets.of("M15");
        x.setRank(0, 0, 1);
        x.setRank(0, 0, 2);
        x.setRank(0, 0, 3);
        check.same("undo()", x.undo(), 2);
        check.same("undo() again", x.undo(), 1);
        check.same("it goes on back", x.rank(0, 0), 1);
        x.setRank(0, 0, 4);
        check.same("undo() of the next action", x.undo(), 1);
        check.same("the rank before it", x.rank(0, 0), 1);
        check.same("undo() of the first action", x.undo(), 0);
        check.same("the first rank", x.rank(0, 0), 5);
    }

    private void stateBeforeEachAction() {
        check.sentence("ACTIONS AND UNDO", "Before each action, the state is remembered");
        Whole.Call[] calls = {x -> x.addTrader(), x -> x.setRank(2, 1, 8), x -> x.exchange(0, 1),
            x -> x.doRing(0), x -> x.trade(), x -> x.leave(1), x -> x.goHome()};
        String text = "M4" + "9099" + "0999" + "9990" + "9909" + "/0132!";
        for (int k = 0; k < calls.length; k++) {
            TradeRings x = Markets.of(text);
            calls[k].on(x);
            check.same("the call " + k + " changes something", Markets.picture(x).startsWith(text + " ") ? 1 : 0, 0);
            check.same("undo() of the call " + k, x.undo(), 0);
            now(x, "the state before the call " + k, text);
        }
    }

    private void fourteenStates() {
        check.sentence("ACTIONS AND UNDO", "At most 14 states are remembered");
        for (int actions = 1; actions <= 30; actions++) {
            TradeRings x = Markets.of("M15");
            for (int k = 0; k < actions; k++) {
                x.setRank(0, 0, k % 10);
            }
            check.same("states behind " + actions + " actions", Markets.remembered(x), Math.min(actions, 14));
        }
    }

    private void oldestForgotten() {
        check.sentence("ACTIONS AND UNDO", "when one more is remembered, the oldest one is forgotten");
        for (int actions = 13; actions <= 30; actions++) {
            TradeRings x = Markets.of("M15");
            for (int k = 0; k < actions; k++) {
                x.setRank(0, 0, k % 10);
            }
            Markets.remembered(x);
            // The action with the index k makes the rank k.
            int oldest = actions <= 14 ? 5 : (actions - 15) % 10;
            check.same("the oldest one of " + actions, x.rank(0, 0), oldest);
        }
        TradeRings x = Markets.of("M15");
        for (int k = 0; k < 14; k++) {
            x.setRank(0, 0, 1);
        }
        x.undo();
        x.setRank(0, 0, 2);
        Markets.remembered(x);
        check.same("none is forgotten at 14", x.rank(0, 0), 5);
    }

    /** Back and forth across the places of 14 states. */
    private void manyStates() {
        TradeRings x = Markets.of("M15");
        for (int round = 0; round < 20; round++) {
            for (int k = 0; k < 9; k++) {
                x.setRank(0, 0, k);
            }
            for (int k = 7; k >= 4; k--) {
                x.undo();
                check.same("the rank in the round " + round, x.rank(0, 0), k);
            }
        }
        int[] ranks = {3, 2, 1, 0, 4, 3, 2, 1, 0, 4};
        for (int k = 0; k < ranks.length; k++) {
            check.same("states still remembered", x.undo(), 9 - k);
            check.same("the rank then", x.rank(0, 0), ranks[k]);
        }
        check.noState("no more", x::undo);
    }

    private void whatIsNoAction() {
        check.sentence("ACTIONS AND UNDO", "load and restore are not actions");
        TradeRings x = Markets.of("M15");
        x.save(0);
        check.noState("undo() of load and save", x::undo);
        x.leave(0);
        x.restore(0);
        check.noState("undo() of restore", x::undo);
        x.leave(0);
        x.load();
        check.noState("undo() of load", x::undo);
        x.goHome();
        check.same("one action", x.undo(), 0);
    }
}
