/** Promises 12 to 19: the actions and undo. */
public final class ActionsTest {
    private static final Check CHECK = new Check("ActionsTest");
    private static final String ROUNDS = "M4" + "2019" + "5417" + "6238" + "1121";

    public static void main(String[] args) {
        addTrader();
        setRank();
        exchange();
        doRing();
        trade();
        leave();
        goHome();
        undo();
        undoOfFourteen();
        everyActionIsRemembered();
        whatIsNoAction();
        CHECK.end();
    }

    private static void now(TradeRings x, String what, String due) {
        String picture = Markets.picture(x);
        CHECK.same(what, picture.substring(0, picture.indexOf(' ')), due);
    }

    private static void addTrader() {
        TradeRings x = new TradeRings();
        CHECK.same("addTrader()", x.addTrader(), 0);
        now(x, "the first one", "M16/0");
        x.setRank(0, 0, 1);
        CHECK.same("addTrader() again", x.addTrader(), 1);
        now(x, "the second one", "M21556/01");
        CHECK.same("who is present", x.trader(1, 2), 1);
        for (int i = 2; i < 7; i++) {
            CHECK.same("addTrader()", x.addTrader(), i);
        }
        CHECK.noState("addTrader() to 7", x::addTrader);
        now(x, "seven", "M7" + "1555555" + "5655555" + "5565555" + "5556555" + "5555655" + "5555565"
            + "5555556" + "/0123456");
        CHECK.same("the addTrader() that throws is not remembered", Markets.remembered(x), 8);
        TradeRings left = Markets.of("M20123/1!0!");
        left.addTrader();
        now(left, "behind those who left", "M3" + "015" + "235" + "556" + "/1!0!2");
        TradeRings smaller = Markets.of("M3" + "999" + "999" + "999" + "/2!1!0!");
        smaller.clearText();
        Markets.write(smaller, "M11");
        smaller.load();
        smaller.addTrader();
        smaller.addTrader();
        now(smaller, "nothing is left of a greater market", "M3" + "155" + "565" + "556" + "/012");
    }

    private static void setRank() {
        TradeRings x = Markets.of("M20123/10!");
        CHECK.same("setRank(0, 1, 9)", x.setRank(0, 1, 9), 1);
        CHECK.same("setRank(1, 0, 0)", x.setRank(1, 0, 0), 2);
        now(x, "the ranks", "M20903/10!");
        CHECK.noIndex("setRank(2, 0, 0)", () -> x.setRank(2, 0, 0));
        CHECK.noIndex("setRank(0, 2, 0)", () -> x.setRank(0, 2, 0));
        CHECK.noIndex("setRank(-1, 0, 10)", () -> x.setRank(-1, 0, 10));
        CHECK.noIndex("setRank(0, -1, 10)", () -> x.setRank(0, -1, 10));
        CHECK.noArgument("setRank(0, 0, 10)", () -> x.setRank(0, 0, 10));
        CHECK.noArgument("setRank(0, 0, -1)", () -> x.setRank(0, 0, -1));
        now(x, "setRank that throws changes nothing", "M20903/10!");
        CHECK.same("setRank that throws is not remembered", Markets.remembered(x), 2);
    }

    private static void exchange() {
        TradeRings x = Markets.of(ROUNDS);
        CHECK.same("exchange(1, 2)", x.exchange(1, 2), 2);
        now(x, "the exchange", ROUNDS + "/0213");
        CHECK.noState("back again", () -> x.exchange(1, 2));
        CHECK.noState("exchange(1, 1)", () -> x.exchange(1, 1));
        CHECK.noState("exchange(0, 3)", () -> x.exchange(0, 3));
        CHECK.noIndex("exchange(0, 4)", () -> x.exchange(0, 4));
        CHECK.noIndex("exchange(-1, 0)", () -> x.exchange(-1, 0));
        CHECK.noIndex("exchange(4, 4)", () -> x.exchange(4, 4));
        now(x, "exchange that throws changes nothing", ROUNDS + "/0213");
        CHECK.same("exchange that throws is not remembered", Markets.remembered(x), 1);
        TradeRings left = Markets.of("M20990/10!");
        CHECK.noState("exchange with one who left", () -> left.exchange(0, 1));
        CHECK.noState("exchange of one who left", () -> left.exchange(1, 0));
        CHECK.noState("exchange that nobody likes better", () -> Markets.of("M25555").exchange(0, 1));
        CHECK.same("exchange of what they hold", Markets.of("M20990/10").exchange(1, 0), 1);
    }

    private static void doRing() {
        TradeRings x = Markets.of(ROUNDS);
        CHECK.noIndex("doRing(3)", () -> x.doRing(3));
        CHECK.noIndex("doRing(-1)", () -> x.doRing(-1));
        CHECK.same("doRing of one", x.doRing(1), 0);
        now(x, "nothing is different", ROUNDS + "/0123");
        CHECK.same("doRing(0)", x.doRing(0), 2);
        now(x, "the ring is done", ROUNDS + "/0213");
        CHECK.same("both are remembered", Markets.remembered(x), 2);
        // Two rings of two in one round; only one of them is done.
        TradeRings two = Markets.of("M4" + "9099" + "0999" + "9990" + "9909");
        CHECK.same("doRing of the second ring", two.doRing(1), 2);
        now(two, "the first ring is not done", "M4" + "9099" + "0999" + "9990" + "9909" + "/0132");
        TradeRings three = Markets.of("M3" + "990" + "099" + "909");
        CHECK.same("doRing of three", three.doRing(0), 3);
        now(three, "the ring of three", "M3" + "990" + "099" + "909" + "/201");
        CHECK.noIndex("doRing without traders", () -> new TradeRings().doRing(0));
    }

    private static void trade() {
        TradeRings x = Markets.of("M4" + "9099" + "0999" + "9990" + "9909");
        CHECK.same("trade()", x.trade(), 4);
        now(x, "all rings are done", "M4" + "9099" + "0999" + "9990" + "9909" + "/1032");
        CHECK.same("trade() again", x.trade(), 0);
        CHECK.same("both are remembered", Markets.remembered(x), 2);
        TradeRings left = Markets.of("M3" + "905" + "059" + "095" + "/0!12");
        CHECK.same("trade() without the one who left", left.trade(), 0);
        now(left, "nothing is different", "M3" + "905" + "059" + "095" + "/0!12");
        CHECK.same("trade() when it is back", goneHome(left).trade(), 2);
        TradeRings held = Markets.of("M20990/10");
        CHECK.same("trade() with what they hold", held.trade(), 2);
        now(held, "both have what they like", "M20990/01");
    }

    private static TradeRings goneHome(TradeRings x) {
        x.goHome();
        return x;
    }

    private static void leave() {
        TradeRings x = Markets.of("M20990/10");
        CHECK.same("leave(1)", x.leave(1), 1);
        now(x, "it left with what it held", "M20990/10!");
        CHECK.noState("leave(1) again", () -> x.leave(1));
        CHECK.noIndex("leave(2)", () -> x.leave(2));
        CHECK.noIndex("leave(-1)", () -> x.leave(-1));
        now(x, "leave that throws changes nothing", "M20990/10!");
        CHECK.same("leave(0)", x.leave(0), 0);
        CHECK.same("leave that throws is not remembered", Markets.remembered(x), 2);
    }

    private static void goHome() {
        TradeRings x = Markets.of("M3" + "012" + "345" + "678" + "/1!02!");
        CHECK.same("goHome()", x.goHome(), 2);
        now(x, "all are at home", "M3" + "012" + "345" + "678" + "/012");
        CHECK.same("goHome() at home", x.goHome(), 0);
        x.leave(2);
        CHECK.same("goHome() of one who left with its own", x.goHome(), 0);
        CHECK.same("it is present again", x.trader(2, 2), 1);
        CHECK.same("all are remembered", Markets.remembered(x), 4);
        now(x, "the first state", "M3" + "012" + "345" + "678" + "/1!02!");
    }

    private static void undo() {
        TradeRings x = Markets.of(ROUNDS);
        CHECK.noState("undo() behind load", x::undo);
        x.exchange(1, 2);
        x.leave(0);
        x.setRank(0, 0, 0);
        x.addTrader();
        CHECK.same("undo of addTrader", x.undo(), 3);
        now(x, "four again", "M4" + "0019" + "5417" + "6238" + "1121" + "/0!213");
        CHECK.same("undo of setRank", x.undo(), 2);
        now(x, "the rank again", ROUNDS + "/0!213");
        x.goHome();
        CHECK.same("undo of goHome", x.undo(), 2);
        now(x, "away again", ROUNDS + "/0!213");
        CHECK.same("undo of leave", x.undo(), 1);
        now(x, "present again", ROUNDS + "/0213");
        CHECK.same("undo of exchange", x.undo(), 0);
        now(x, "at home again", ROUNDS + "/0123");
        CHECK.noState("undo of nothing", x::undo);
        now(x, "undo that throws changes nothing", ROUNDS + "/0123");
    }

    private static void undoOfFourteen() {
        TradeRings x = Markets.of("M10");
        for (int r = 1; r <= 14; r++) {
            x.setRank(0, 0, r % 10);
        }
        CHECK.same("undo of the fourteenth", x.undo(), 13);
        x.setRank(0, 0, 4);
        x.setRank(0, 0, 5);
        for (int states = 13; states >= 0; states--) {
            CHECK.same("undo", x.undo(), states);
            CHECK.same("the rank then", x.rank(0, 0), (states + 1) % 10);
        }
        CHECK.noState("the oldest one is forgotten", x::undo);
        CHECK.same("the rank of the oldest one", x.rank(0, 0), 1);
        for (int r = 0; r < 40; r++) {
            x.setRank(0, 0, r % 10);
        }
        CHECK.same("at most 14 are remembered", Markets.remembered(x), 14);
        CHECK.same("the rank 14 actions ago", x.rank(0, 0), 5);
    }

    private static void everyActionIsRemembered() {
        TradeRings x = Markets.of("M25555");
        x.setRank(0, 0, 5);
        x.trade();
        x.goHome();
        x.doRing(0);
        x.doRing(1);
        now(x, "nothing is different", "M25555/01");
        CHECK.same("actions that change nothing are remembered", Markets.remembered(x), 5);
    }

    private static void whatIsNoAction() {
        TradeRings x = Markets.of(ROUNDS);
        x.about(4);
        x.errorPosition();
        x.append('x');
        x.clearText();
        x.group(true);
        x.groups(false);
        x.least();
        x.leastOf(0);
        x.betterWays();
        x.harms(0);
        x.fewest(0, 2);
        x.runScript(2, 30004000);
        x.simulate(3, 50);
        x.save(0);
        now(x, "nothing is different", ROUNDS + "/0123");
        CHECK.noState("nothing is remembered", x::undo);
    }
}
