/** The section EXCEPTIONS, what the constants are, and how long an object is used. */
final class RefusalBoundaries {
    private static final int NONE = TradeRings.NONE;
    private static final int[] NOT_OF_THREE = {-1, 3, 7, Integer.MIN_VALUE, Integer.MAX_VALUE, NONE};

    private final Check check;
    private final Whole whole;

    RefusalBoundaries(Check check) {
        this.check = check;
        whole = new Whole(check);
    }

    void all() {
        whatDoesNotExist();
        slotsThatDoNotExist();
        argumentsOutOfRange();
        whatTheMethodsSay();
        firstException();
        changesNothing();
        manyRefusals();
        noSuchResult();
        lastCallOfManyActions();
        lastCallOfManyQuestions();
        lastCallOfManyTexts();
    }

    /** A richer market whose last trader has left; a call on it throws and changes nothing. */
    private void index(String name, Whole.Call call) {
        whole.noIndex(name, Whole::rich, call);
    }

    private void whatDoesNotExist() {
        check.sentence("EXCEPTIONS", "IndexOutOfBoundsException means that a trader, a thing or a ring does not exist");
        for (int no : NOT_OF_THREE) {
            index("trader " + no, x -> x.trader(no, 0));
            index("rank by " + no, x -> x.rank(no, 1));
            index("rank of " + no, x -> x.rank(1, no));
            index("holder " + no, x -> x.holder(no));
            index("ring " + no, x -> x.ring(no, 0));
            index("whyNot " + no, x -> x.whyNot(no, 1));
            index("whyNot with " + no, x -> x.whyNot(1, no));
            index("setRank by " + no, x -> x.setRank(no, 1, 1));
            index("setRank of " + no, x -> x.setRank(1, no, 1));
            index("exchange " + no, x -> x.exchange(no, 1));
            index("exchange with " + no, x -> x.exchange(1, no));
            index("doRing " + no, x -> x.doRing(no));
            index("leave " + no, x -> x.leave(no));
            index("leastOf " + no, x -> x.leastOf(no));
            index("harms " + no, x -> x.harms(no));
            index("fewest by " + no, x -> x.fewest(no, 1));
            index("fewest of " + no, x -> x.fewest(1, no));
        }
    }

    private void slotsThatDoNotExist() {
        check.sentence("EXCEPTIONS", "or that a save slot is not 0 or 1");
        int[] slots = {-1, 2, 14, Integer.MIN_VALUE, Integer.MAX_VALUE, NONE};
        for (int slot : slots) {
            index("save " + slot, x -> x.save(slot));
            index("restore " + slot, x -> x.restore(slot));
        }
    }

    private void argumentsOutOfRange() {
        check.sentence("EXCEPTIONS", "IllegalArgumentException means that another argument is out of its range");
        int[] noNumber = {-1, Integer.MIN_VALUE, Integer.MAX_VALUE, 1000, NONE};
        for (int no : noNumber) {
            whole.noArgument("append " + no, Whole::rich, x -> x.append(no));
            whole.noArgument("about " + no, Whole::rich, x -> x.about(no));
            whole.noArgument("trader, " + no, Whole::rich, x -> x.trader(0, no));
            whole.noArgument("ring, " + no, Whole::rich, x -> x.ring(0, no));
            whole.noArgument("setRank to " + no, Whole::rich, x -> x.setRank(0, 0, no));
            whole.noArgument("runScript of " + no, Whole::rich, x -> x.runScript(no, 3000));
            whole.noArgument("simulate " + no, Whole::rich, x -> x.simulate(0, no));
        }
    }

    private void whatTheMethodsSay() {
        check.sentence("EXCEPTIONS", "IllegalStateException means what the method says");
        Whole.Maker seven = () -> Markets.of("M7" + "9".repeat(49));
        whole.noState("load of no market", Whole::rich, TradeRings::load);
        whole.noState("addTrader to seven", seven, TradeRings::addTrader);
        whole.noState("exchange that cannot be", seven, x -> x.exchange(0, 1));
        whole.noState("leave of one who left", Whole::rich, x -> x.leave(2));
        whole.noState("undo of nothing", seven, TradeRings::undo);
        whole.noState("restore of nothing", Whole::rich, x -> x.restore(1));
        whole.noState("append to 70", () -> {
            TradeRings x = new TradeRings();
            Markets.write(x, "y".repeat(70));
            return x;
        }, x -> x.append('y'));
    }

    private void firstException() {
        check.sentence("EXCEPTIONS", "If several exceptions apply to a call, the one that its description names first "
            + "is thrown");
        Whole.Maker full = () -> {
            TradeRings x = new TradeRings();
            Markets.write(x, "y".repeat(70));
            return x;
        };
        whole.noArgument("append(256) to a full text", full, x -> x.append(256));
        whole.noArgument("append(-1) to a full text", full, x -> x.append(-1));
        index("trader(3, 7)", x -> x.trader(3, 7));
        index("trader(-1, -1)", x -> x.trader(-1, -1));
        index("ring(1, 4)", x -> x.ring(1, 4));
        index("ring(-1, -1)", x -> x.ring(-1, -1));
        index("setRank(3, 0, 10)", x -> x.setRank(3, 0, 10));
        index("setRank(0, 3, -1)", x -> x.setRank(0, 3, -1));
        index("exchange(3, 3)", x -> x.exchange(3, 3));
        index("exchange(2, 3) of one who left", x -> x.exchange(2, 3));
        index("exchange(3, 2) with one who left", x -> x.exchange(3, 2));
        index("restore(2) of nothing", x -> x.restore(2));
        whole.noIndex("restore(-1) of a new object", TradeRings::new, x -> x.restore(-1));
        whole.noArgument("runScript(0, -1)", Whole::rich, x -> x.runScript(0, -1));
    }

    private void changesNothing() {
        check.sentence("EXCEPTIONS", "A call that throws an exception changes nothing");
        whole.noState("exchange(0, 0)", Whole::rich, x -> x.exchange(0, 0));
        whole.noArgument("setRank(2, 2, 10)", Whole::rich, x -> x.setRank(2, 2, 10));
        whole.noState("load", Whole::rich, TradeRings::load);
        whole.noIndex("load, then leave(2) of two", () -> {
            TradeRings x = Whole.richWithMarket();
            x.load();
            return x;
        }, x -> x.leave(2));
    }

    private void manyRefusals() {
        TradeRings x = Whole.rich();
        Whole.Call[] calls = {y -> y.load(), y -> y.leave(2), y -> y.leave(-1), y -> y.exchange(0, 2),
            y -> y.exchange(1, 1), y -> y.setRank(0, 0, 10), y -> y.setRank(3, 0, 1), y -> y.doRing(1),
            y -> y.restore(1), y -> y.restore(2), y -> y.save(2), y -> y.append(256), y -> y.about(8)};
        for (int k = 0; k < 3 * calls.length; k++) {
            Whole.Call call = calls[k % calls.length];
            check.same("the refusal " + k, Check.answerOf(() -> call.on(x)).startsWith("throws.") ? 1 : 0, 1);
        }
        check.same("nothing is different behind many refusals", Whole.of(x), Whole.of(Whole.rich()));
    }

    private void noSuchResult() {
        check.sentence("EXCEPTIONS", "The constants: NONE = -9: There is no such result");
        check.same("NONE", TradeRings.NONE, -9);
        check.same("a market's error position", Markets.of("M15").errorPosition(), -9);
        check.same("no group", Markets.of("M15").group(false), -9);
        check.same("nothing for one who left", Markets.of("M15/0!").leastOf(0), -9);
    }

    // ---- how long an object is used

    private void lastCallOfManyActions() {
        check.sentence("What it is", "An object is used for at most 512 calls after it has been made");
        TradeRings x = new TradeRings();
        x.addTrader();
        for (int k = 2; k <= 497; k++) {
            x.setRank(0, 0, k % 10);
        }
        for (int states = 13; states >= 0; states--) {
            check.same("undo() near the end", x.undo(), states);
        }
        check.same("the call 512", x.rank(0, 0), 3);
    }

    private void lastCallOfManyQuestions() {
        TradeRings x = Markets.of("M7" + "9400041" + "5550146" + "1266263" + "1145506" + "7725826" + "7685351"
            + "5756601");
        for (int k = 53; k < 512; k += 3) {
            check.same("fewest again and again", x.fewest(0, 6), 7);
            check.same("groups again and again", x.groups(false) >= x.groups(true) ? 1 : 0, 1);
        }
        check.same("the call 512", x.fewest(0, 6), 7);
    }

    private void lastCallOfManyTexts() {
        TradeRings x = new TradeRings();
        for (int k = 0; k < 85; k++) {
            Markets.write(x, "M15");
            check.same("load again and again", x.load(), 1);
            x.leave(0);
            check.same("clearText again and again", x.clearText(), 3);
        }
        check.same("the call 511", x.about(1), 0);
        check.same("the call 512", x.undo(), 0);
    }
}
