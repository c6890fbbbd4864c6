/** Promises 1 to 5: the new object and the text. */
public final class TextTest {
    private static final Check CHECK = new Check("TextTest");

    public static void main(String[] args) {
        newObject();
        append();
        clearText();
        errorPosition();
        errorPositionOfLongTexts();
        load();
        loadThatFails();
        CHECK.end();
    }

    private static void newObject() {
        TradeRings x = new TradeRings();
        for (int what = 0; what <= 7; what++) {
            CHECK.same("about of a new object", x.about(what), 0);
        }
        CHECK.noIndex("trader of a new object", () -> x.trader(0, 0));
        CHECK.noIndex("rank of a new object", () -> x.rank(0, 0));
        CHECK.noIndex("holder of a new object", () -> x.holder(0));
        CHECK.noIndex("ring of a new object", () -> x.ring(0, 0));
        CHECK.noState("undo of a new object", x::undo);
        CHECK.noState("restore(0) of a new object", () -> x.restore(0));
        CHECK.noState("restore(1) of a new object", () -> x.restore(1));
        CHECK.same("clearText of a new object", x.clearText(), 0);
        CHECK.same("group of a new object", x.group(false), TradeRings.NONE);
        CHECK.same("groups of a new object", x.groups(true), 0);
        CHECK.same("least of a new object", x.least(), 0);
        CHECK.same("betterWays of a new object", x.betterWays(), 0);
        CHECK.same("simulate of a new object", x.simulate(1, 99), 0);
        CHECK.same("trade of a new object", x.trade(), 0);
        CHECK.same("goHome of a new object", x.goHome(), 0);
        CHECK.same("NONE", TradeRings.NONE, -9);
    }

    private static void append() {
        TradeRings x = new TradeRings();
        CHECK.same("append(0)", x.append(0), 1);
        CHECK.same("append(255)", x.append(255), 2);
        CHECK.noArgument("append(-1)", () -> x.append(-1));
        CHECK.noArgument("append(256)", () -> x.append(256));
        CHECK.noArgument("append(the least int)", () -> x.append(Integer.MIN_VALUE));
        CHECK.noArgument("append(the greatest int)", () -> x.append(Integer.MAX_VALUE));
        for (int length = 3; length <= 70; length++) {
            CHECK.same("append(57)", x.append(57), length);
        }
        CHECK.noState("append to 70", () -> x.append(57));
        CHECK.noArgument("append out of range to 70", () -> x.append(256));
        CHECK.same("clearText of 70", x.clearText(), 70);
        CHECK.same("append behind clearText", x.append(77), 1);
    }

    private static void clearText() {
        TradeRings x = new TradeRings();
        Markets.write(x, "M15");
        CHECK.same("clearText", x.clearText(), 3);
        CHECK.same("clearText again", x.clearText(), 0);
        CHECK.same("errorPosition of the cleared text", x.errorPosition(), 0);
        Markets.write(x, "M1");
        CHECK.same("errorPosition of a text that was longer before", x.errorPosition(), 2);
    }

    private static void position(String text, int due) {
        TradeRings x = new TradeRings();
        Markets.write(x, text);
        CHECK.same("errorPosition of " + text, x.errorPosition(), due);
        CHECK.same("errorPosition keeps " + text, x.clearText(), text.length());
        CHECK.same("errorPosition does not load " + text, x.about(0), 0);
    }

    private static void errorPosition() {
        position("", 0);
        position("m15", 0);
        position("15", 0);
        position(" M15", 0);
        position("M", 1);
        position("M05", 1);
        position("M8", 1);
        position("M/", 1);
        position("M!", 1);
        position("M1", 2);
        position("M1:", 2);
        position("M1/", 2);
        position("M1 5", 2);
        position("M1" + (char) 181, 2);
        position("M10", TradeRings.NONE);
        position("M19", TradeRings.NONE);
        position("M155", 3);
        position("M15!", 3);
        position("M15 ", 3);
        position("M15" + (char) 0, 3);
        position("M15" + (char) 255, 3);
        position("M15/", 4);
        position("M15/!", 4);
        position("M15/1", 4);
        position("M15/x", 4);
        position("M15/0", TradeRings.NONE);
        position("M15/0!", TradeRings.NONE);
        position("M15/00", 5);
        position("M15/0/", 5);
        position("M15/0!!", 6);
        position("M15/0!0", 6);
        position("M2012", 5);
        position("M2012/", 5);
        position("M20123", TradeRings.NONE);
        position("M20123/10", TradeRings.NONE);
        position("M20123/01", TradeRings.NONE);
        position("M20123/1!0!", TradeRings.NONE);
        position("M20123/10!", TradeRings.NONE);
        position("M20123/1", 8);
        position("M20123/1!", 9);
        position("M20123/11", 8);
        position("M20123/1!1", 9);
        position("M20123/2", 7);
        position("M20123/12", 8);
        position("M20123/1!!0", 9);
        position("M20123/10/", 9);
        position("M3012345678/2!01!", TradeRings.NONE);
        position("M3012345678/202", 14);
        position("M301234567:", 10);
    }

    private static void errorPositionOfLongTexts() {
        String ranks = "M7" + "0123456789".repeat(4) + "012345678";
        position(ranks, TradeRings.NONE);
        position(ranks.substring(0, 50), 50);
        position(ranks + "9", 51);
        position(ranks + "/6543210", TradeRings.NONE);
        position(ranks + "/6!5!4!3!2!1!0!", TradeRings.NONE);
        position(ranks + "/6!5!4!3!2!1!0!0000", 66);
        position(ranks + "/6!5!4!3!2!1!7", 64);
        position(ranks + "/6!5!4!3!2!1!6!", 64);
        position(ranks + "/6!5!4!3!2!1!", 64);
    }

    private static void load() {
        TradeRings x = Markets.of("M16");
        x.addTrader();
        x.save(0);
        x.save(1);
        x.clearText();
        Markets.write(x, "M3012345678/2!01!");
        CHECK.same("load", x.load(), 1);
        CHECK.same("what load makes", Markets.picture(x), "M3012345678/2!01! text -9");
        CHECK.noState("undo behind load", x::undo);
        CHECK.noState("restore(0) behind load", () -> x.restore(0));
        CHECK.noState("restore(1) behind load", () -> x.restore(1));
        CHECK.same("load keeps the text", x.clearText(), 17);
        Markets.write(x, "M20123");
        CHECK.same("load of a market at home", x.load(), 2);
        CHECK.same("the market at home", Markets.picture(x), "M20123/01 text -9");
        x.leave(0);
        x.leave(1);
        CHECK.same("load of the same text again", x.load(), 2);
        CHECK.same("everything is replaced", Markets.picture(x), "M20123/01 text -9");
    }

    private static void loadThatFails() {
        TradeRings x = Markets.of("M20123/1!0");
        x.save(1);
        x.setRank(0, 0, 7);
        x.clearText();
        CHECK.noState("load of an empty text", x::load);
        Markets.write(x, "M20123/01!!");
        String before = Markets.picture(x);
        CHECK.noState("load of no market", x::load);
        CHECK.same("load that throws changes nothing", Markets.picture(x), before);
        CHECK.same("the action is still remembered", x.undo(), 0);
        CHECK.same("the slot is still saved", x.restore(1), 2);
        CHECK.same("the text is kept", x.clearText(), 11);
    }
}
