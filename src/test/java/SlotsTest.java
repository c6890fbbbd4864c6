/** Promises 29 and 30: the save slots. */
public final class SlotsTest {
    private static final Check CHECK = new Check("SlotsTest");

    public static void main(String[] args) {
        save();
        restore();
        slotsAndUndo();
        slotsAndLoad();
        CHECK.end();
    }

    private static void now(TradeRings x, String what, String due) {
        String picture = Markets.picture(x);
        CHECK.same(what, picture.substring(0, picture.indexOf(' ')), due);
    }

    private static void save() {
        TradeRings x = Markets.of("M20123/1!0");
        CHECK.same("save(0): all traders, not present ones", x.save(0), 2);
        CHECK.same("save(1)", x.save(1), 2);
        CHECK.noIndex("save(2)", () -> x.save(2));
        CHECK.noIndex("save(-1)", () -> x.save(-1));
        CHECK.noState("save is no action", x::undo);
        now(x, "save changes nothing", "M20123/1!0");
        CHECK.same("save without traders", new TradeRings().save(0), 0);
    }

    private static void restore() {
        TradeRings x = Markets.of("M20123/1!0");
        CHECK.noState("restore(0) of nothing", () -> x.restore(0));
        CHECK.noIndex("restore(2)", () -> x.restore(2));
        CHECK.noIndex("restore(-1)", () -> x.restore(-1));
        x.save(0);
        CHECK.noState("the other slot", () -> x.restore(1));
        x.goHome();
        x.setRank(0, 0, 9);
        x.addTrader();
        x.save(1);
        CHECK.same("restore(0): all traders", x.restore(0), 2);
        now(x, "the state of the slot 0", "M20123/1!0");
        CHECK.noState("restore forgets", x::undo);
        CHECK.same("restore(1)", x.restore(1), 3);
        now(x, "the state of the slot 1", "M3915235556/012");
        x.leave(0);
        x.setRank(1, 1, 0);
        CHECK.same("restore(1) again", x.restore(1), 3);
        now(x, "the slot keeps its state", "M3915235556/012");
        x.save(0);
        x.goHome();
        x.restore(0);
        now(x, "the slot 0 is replaced", "M3915235556/012");
    }

    private static void slotsAndUndo() {
        TradeRings x = Markets.of("M20123");
        x.leave(0);
        x.save(0);
        x.leave(1);
        CHECK.noState("restore(1) of nothing", () -> x.restore(1));
        CHECK.same("restore that throws forgets nothing", x.undo(), 1);
        CHECK.same("undo keeps the slots", x.undo(), 0);
        now(x, "all taken back", "M20123/01");
        CHECK.same("restore(0)", x.restore(0), 2);
        now(x, "the slot is no part of the state", "M20123/0!1");
        x.leave(1);
        CHECK.same("one state behind restore", x.undo(), 0);
        now(x, "taken back", "M20123/0!1");
        TradeRings none = new TradeRings();
        none.save(1);
        none.addTrader();
        CHECK.same("restore to no traders", none.restore(1), 0);
        CHECK.same("no traders", none.about(0), 0);
    }

    private static void slotsAndLoad() {
        TradeRings x = Markets.of("M20123");
        x.save(0);
        x.save(1);
        x.append('x');
        CHECK.noState("load of no market", x::load);
        CHECK.same("the slot is kept", x.restore(0), 2);
        x.clearText();
        CHECK.same("the slots are no text", x.restore(1), 2);
        Markets.write(x, "M15");
        x.load();
        CHECK.noState("restore(0) behind load", () -> x.restore(0));
        CHECK.noState("restore(1) behind load", () -> x.restore(1));
        CHECK.noIndex("restore(2) behind load", () -> x.restore(2));
        now(x, "restore that throws changes nothing", "M15/0");
        CHECK.same("saved again", x.save(1), 1);
        CHECK.same("restored again", x.restore(1), 1);
    }
}
