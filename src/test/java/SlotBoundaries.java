/** The boundaries of the promises 29 and 30, sentence by sentence. */
final class SlotBoundaries {
    private static final int[] NO_SLOT = {-1, 2, 3, Integer.MIN_VALUE, Integer.MAX_VALUE};
    private static final String NINES = "9".repeat(49);

    private final Check check;
    private final Whole whole;

    SlotBoundaries(Check check) {
        this.check = check;
        whole = new Whole(check);
    }

    void all() {
        save();
        bothSlots();
        saveAnswers();
        saveInNoSlot();
        restore();
        slotKeepsIt();
        restoreAnswers();
        restoreOfNoSlot();
        restoreOfNothing();
    }

    private void now(TradeRings x, String what, String due) {
        String picture = Markets.picture(x);
        check.same(what, picture.substring(0, picture.indexOf(' ')), due);
    }

    private void save() {
        check.sentence("29", "Stores the present state in a save slot");
        TradeRings x = Markets.of("M20123/1!0");
        x.save(0);
        x.goHome();
        x.setRank(0, 0, 9);
        x.addTrader();
        x.leave(2);
        x.save(1);
        x.restore(0);
        now(x, "what was saved first", "M20123/1!0");
        x.restore(1);
        now(x, "what was saved then", "M3" + "915" + "235" + "556" + "/012!");
        TradeRings over = Markets.of("M15");
        over.save(1);
        over.leave(0);
        over.save(1);
        over.goHome();
        over.restore(1);
        now(over, "the later one", "M15/0!");
        TradeRings acting = Whole.rich();
        acting.save(0);
        check.same("save forgets nothing", acting.undo(), 13);
        check.same("save is not remembered", Markets.remembered(acting), 13);
    }

    private void bothSlots() {
        check.sentence("29", "- slot: 0 or 1");
        check.sentence("30", "- slot: 0 or 1");
        for (int slot = 0; slot < 2; slot++) {
            TradeRings x = Markets.of("M15/0!");
            int other = 1 - slot;
            check.sentence("29", "- slot: 0 or 1");
            check.same("save(" + slot + ")", x.save(slot), 1);
            check.noState("restore(" + other + ") of the other one", () -> x.restore(other));
            check.sentence("30", "- slot: 0 or 1");
            check.same("restore(" + slot + ")", x.restore(slot), 1);
        }
    }

    private void saveAnswers() {
        check.sentence("29", "Returns the number of traders");
        check.same("without traders", new TradeRings().save(0), 0);
        check.same("without traders", new TradeRings().save(1), 0);
        check.same("one who left", Markets.of("M15/0!").save(0), 1);
        check.same("seven", Markets.of("M7" + NINES).save(1), 7);
        check.same("seven who left", Markets.of("M7" + NINES + "/0!1!2!3!4!5!6!").save(0), 7);
    }

    private void saveInNoSlot() {
        check.sentence("29", "Throws IndexOutOfBoundsException if there is no such save slot");
        for (int slot : NO_SLOT) {
            whole.noIndex("save(" + slot + ")", Whole::rich, x -> x.save(slot));
            whole.noIndex("save(" + slot + ") of a new object", TradeRings::new, x -> x.save(slot));
        }
    }

    private void restore() {
        check.sentence("30", "Replaces the state by the one in a save slot, and forgets all remembered states");
        TradeRings x = Whole.rich();
        x.restore(0);
        now(x, "the state that was saved", "M3" + "831" + "153" + "315" + "/012");
        check.noState("undo()", x::undo);
        x.leave(0);
        check.same("only the action since then", x.undo(), 0);
        check.noState("undo() again", x::undo);
        now(x, "not further back", "M3" + "831" + "153" + "315" + "/012");
        check.same("the text stays", x.errorPosition(), 11);
        TradeRings same = Markets.of("M15");
        same.goHome();
        same.save(0);
        same.restore(0);
        check.noState("undo() though the state is the same", same::undo);
        TradeRings greater = new TradeRings();
        greater.save(1);
        for (int i = 0; i < 7; i++) {
            greater.addTrader();
            greater.leave(i);
        }
        greater.save(0);
        greater.restore(1);
        check.noIndex("no traders then", () -> greater.trader(0, 0));
        check.same("added anew", greater.addTrader(), 0);
        now(greater, "present and with its ranks", "M16/0");
        greater.restore(0);
        check.same("seven again", greater.about(0), 7);
        check.same("all have left", greater.about(1), 0);
    }

    private void slotKeepsIt() {
        check.sentence("30", "The save slot keeps it");
        TradeRings x = Markets.of("M29009/1!0");
        x.save(1);
        for (int k = 0; k < 5; k++) {
            x.restore(1);
            now(x, "restored again", "M29009/1!0");
            x.goHome();
            x.setRank(0, 0, k);
            x.trade();
            x.addTrader();
            x.leave(1);
            x.undo();
        }
        x.save(0);
        x.restore(1);
        now(x, "the other slot does not matter", "M29009/1!0");
    }

    private void restoreAnswers() {
        check.sentence("30", "Returns the number of traders then");
        TradeRings x = new TradeRings();
        x.save(0);
        for (int i = 0; i < 7; i++) {
            x.addTrader();
        }
        x.leave(3);
        x.save(1);
        check.same("none", x.restore(0), 0);
        check.same("seven, of whom one has left", x.restore(1), 7);
        check.same("none again", x.restore(0), 0);
    }

    private void restoreOfNoSlot() {
        check.sentence("30", "Throws IndexOutOfBoundsException if there is no such save slot");
        for (int slot : NO_SLOT) {
            whole.noIndex("restore(" + slot + ")", Whole::rich, x -> x.restore(slot));
            whole.noIndex("restore(" + slot + ") of a new object", TradeRings::new, x -> x.restore(slot));
        }
    }

    private void restoreOfNothing() {
        check.sentence("30", "Throws IllegalStateException if nothing has been saved in it since the last load");
        whole.noState("restore(0) of a new object", TradeRings::new, x -> x.restore(0));
        whole.noState("restore(1) of a new object", TradeRings::new, x -> x.restore(1));
        whole.noState("restore(1) of the other slot", Whole::rich, x -> x.restore(1));
        Whole.Maker loaded = () -> {
            TradeRings x = Whole.richWithMarket();
            x.save(1);
            x.load();
            x.leave(1);
            return x;
        };
        whole.noState("restore(0) behind load", loaded, x -> x.restore(0));
        whole.noState("restore(1) behind load", loaded, x -> x.restore(1));
        TradeRings x = loaded.make();
        x.save(0);
        check.same("restore(0) of what was saved since then", x.restore(0), 2);
        TradeRings failed = Whole.rich();
        check.noState("load of no market", failed::load);
        check.same("restore(0) behind a load that throws", failed.restore(0), 3);
    }
}
