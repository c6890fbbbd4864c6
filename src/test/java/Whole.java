/** Everything that can be seen of an object, and calls that must leave all of it as it is. */
final class Whole {
    /** Makes the same object again and again. */
    interface Maker {
        TradeRings make();
    }

    /** A call on an object. */
    interface Call {
        long on(TradeRings x);
    }

    private final Check check;

    Whole(Check check) {
        this.check = check;
    }

    /** The market without the text, the remembered states and the save slots; uses the object up. */
    static String state(TradeRings x) {
        StringBuilder all = new StringBuilder(market(x));
        String undone = "";
        for (int states = 0; states < 20 && !undone.startsWith("throws"); states++) {
            undone = Check.answerOf(x::undo);
            all.append("\nundo ").append(undone).append(' ').append(market(x));
        }
        for (int slot = 0; slot < 2; slot++) {
            all.append("\nrestore ").append(Check.answerOf(slot == 0 ? () -> x.restore(0) : () -> x.restore(1)));
            all.append(' ').append(market(x));
        }
        return all.toString();
    }

    /** The text, as far as it can be seen; uses the object up. */
    static String text(TradeRings x) {
        StringBuilder all = new StringBuilder("\nerrorPosition ").append(x.errorPosition());
        all.append("\nload ").append(Check.answerOf(x::load)).append(' ').append(market(x));
        return all.append("\nclearText ").append(x.clearText()).toString();
    }

    static String of(TradeRings x) {
        return state(x) + text(x);
    }

    private static String market(TradeRings x) {
        String picture = Markets.picture(x);
        return picture.substring(0, picture.indexOf(' '));
    }

    /** A call that throws this exception and changes nothing. */
    void refused(String exception, String name, Maker maker, Call call) {
        TradeRings x = maker.make();
        check.same(name, Check.answerOf(() -> call.on(x)), "throws." + exception);
        check.same(name + " changes nothing", of(x), of(maker.make()));
    }

    void noIndex(String name, Maker maker, Call call) {
        refused("IndexOutOfBoundsException", name, maker, call);
    }

    void noArgument(String name, Maker maker, Call call) {
        refused("IllegalArgumentException", name, maker, call);
    }

    void noState(String name, Maker maker, Call call) {
        refused("IllegalStateException", name, maker, call);
    }

    /** A call that answers and changes nothing. */
    void unchanged(String name, Maker maker, Call call) {
        TradeRings x = maker.make();
        check.same(name + " throws nothing", Check.answerOf(() -> call.on(x)).startsWith("throws") ? 1 : 0, 0);
        check.same(name + " changes nothing", of(x), of(maker.make()));
    }

    /**
     * Three traders of whom the last one has left, 14 remembered states after 17 actions, a state
     * in the slot 0, none in the slot 1, and a text that is no market.
     */
    static TradeRings rich() {
        TradeRings x = Markets.of("M3" + "531" + "153" + "315");
        for (int r = 0; r < 9; r++) {
            x.setRank(0, 0, r);
        }
        x.save(0);
        x.setRank(1, 1, 4);
        x.exchange(0, 1);
        x.setRank(2, 2, 0);
        x.setRank(0, 2, 8);
        x.trade();
        x.leave(2);
        x.goHome();
        x.leave(2);
        x.append('x');
        return x;
    }

    /** As rich, but with a text that is another market, so that load would answer. */
    static TradeRings richWithMarket() {
        TradeRings x = rich();
        x.clearText();
        Markets.write(x, "M20123/1!0");
        return x;
    }
}
