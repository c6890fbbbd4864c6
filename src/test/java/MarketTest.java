/** Promises 6 to 11: what there is. */
public final class MarketTest {
    private static final Check CHECK = new Check("MarketTest");

    /** Two rings in the round 0, one in the round 1. */
    private static final String ROUNDS = "M4" + "2019" + "5417" + "6238" + "1121";

    public static void main(String[] args) {
        about();
        aboutThoseWhoLeft();
        trader();
        pointing();
        rank();
        holder();
        ring();
        ringOfThreeAndOrder();
        whyNot();
        CHECK.end();
    }

    private static void abouts(String text, int... due) {
        TradeRings x = Markets.of(text);
        for (int what = 0; what < due.length; what++) {
            CHECK.same("about(" + what + ") of " + text, x.about(what), due[what]);
        }
    }

    private static void about() {
        abouts(ROUNDS, 4, 4, 4, 10, 3, 2, 2, 4);
        abouts("M15", 1, 1, 1, 5, 1, 1, 0, 0);
        // Each likes what the other one holds better.
        abouts("M20990/10", 2, 2, 0, 18, 1, 1, 2, 2);
        // All alike: nobody envies, nobody moves.
        abouts("M2" + "5555" + "/10", 2, 2, 0, 10, 2, 1, 0, 0);
        TradeRings x = Markets.of(ROUNDS);
        CHECK.noArgument("about(-1)", () -> x.about(-1));
        CHECK.noArgument("about(8)", () -> x.about(8));
        CHECK.same("about that throws changes nothing", Markets.picture(x), ROUNDS + "/0123 text -9");
    }

    private static void aboutThoseWhoLeft() {
        abouts("M20990/1!0!", 2, 0, 0, 18, 0, 0, 0, 0);
        abouts("M20990/0!1", 2, 1, 2, 0, 1, 1, 0, 0);
        // 1 has left with the thing 2; 2 keeps the thing 1, so that 0 envies it and is done last.
        abouts(ROUNDS + "/02!13", 4, 3, 2, 2 + 1 + 2 + 1, 3, 2, 0, 1);
    }

    private static void trader() {
        TradeRings x = Markets.of(ROUNDS);
        long[][] due = {
            {0, 2, 1, 0, 1, 2, 1},
            {1, 4, 1, 2, 0, 0, 2},
            {2, 3, 1, 1, 0, 0, 1},
            {3, 1, 1, 3, 0, 1, 3}};
        for (int i = 0; i < 4; i++) {
            for (int what = 0; what <= 6; what++) {
                CHECK.same("trader(" + i + ", " + what + ")", x.trader(i, what), due[i][what]);
            }
        }
        CHECK.noIndex("trader(4, 0)", () -> x.trader(4, 0));
        CHECK.noIndex("trader(-1, 0)", () -> x.trader(-1, 0));
        CHECK.noIndex("trader(4, 7)", () -> x.trader(4, 7));
        CHECK.noArgument("trader(0, 7)", () -> x.trader(0, 7));
        CHECK.noArgument("trader(3, -1)", () -> x.trader(3, -1));
        x.leave(1);
        long[] left = {1, 4, 0, TradeRings.NONE, TradeRings.NONE, TradeRings.NONE, TradeRings.NONE};
        for (int what = 0; what <= 6; what++) {
            CHECK.same("trader(1, " + what + ") who left", x.trader(1, what), left[what]);
        }
        CHECK.same("0 points past the one who left", x.trader(0, 6), 2);
        CHECK.same("2 points at itself then", x.trader(2, 6), 2);
        CHECK.same("0 is done in the round 1 then", x.trader(0, 4), 1);
    }

    private static void pointing() {
        // 2 likes the things 0 and 1 best, which are held by 1 and 0.
        CHECK.same("the lowest trader, not the lowest thing",
            Markets.of("M3" + "999" + "999" + "115" + "/102").trader(2, 6), 0);
        CHECK.same("the lowest trader who is present",
            Markets.of("M3" + "999" + "999" + "115" + "/1!02").trader(2, 6), 1);
        CHECK.same("itself, if it holds one of the best",
            Markets.of("M3" + "999" + "999" + "111" + "/102").trader(2, 6), 2);
        CHECK.same("the owner of the best does not matter",
            Markets.of("M3" + "999" + "999" + "990" + "/210").trader(2, 6), 0);
    }

    private static void rank() {
        TradeRings x = Markets.of("M20123/1!0");
        CHECK.same("rank(0, 0)", x.rank(0, 0), 0);
        CHECK.same("rank(0, 1)", x.rank(0, 1), 1);
        CHECK.same("rank(1, 0)", x.rank(1, 0), 2);
        CHECK.same("rank(1, 1)", x.rank(1, 1), 3);
        CHECK.noIndex("rank(2, 0)", () -> x.rank(2, 0));
        CHECK.noIndex("rank(0, 2)", () -> x.rank(0, 2));
        CHECK.noIndex("rank(-1, 0)", () -> x.rank(-1, 0));
        CHECK.noIndex("rank(0, -1)", () -> x.rank(0, -1));
    }

    private static void holder() {
        TradeRings x = Markets.of("M3012345678/2!01!");
        CHECK.same("holder(0)", x.holder(0), 1);
        CHECK.same("holder(1) who left", x.holder(1), 2);
        CHECK.same("holder(2) who left", x.holder(2), 0);
        CHECK.noIndex("holder(3)", () -> x.holder(3));
        CHECK.noIndex("holder(-1)", () -> x.holder(-1));
    }

    private static void rings(String text, int[]... due) {
        TradeRings x = Markets.of(text);
        for (int k = 0; k < due.length; k++) {
            for (int what = 0; what <= 3; what++) {
                CHECK.same("ring(" + k + ", " + what + ") of " + text, x.ring(k, what), due[k][what]);
            }
        }
        CHECK.noIndex("no more rings of " + text, () -> x.ring(due.length, 0));
    }

    private static void ring() {
        rings(ROUNDS, new int[] {6, 2, 0, 4}, new int[] {8, 1, 0, 0}, new int[] {1, 1, 1, 0});
        TradeRings x = Markets.of(ROUNDS);
        CHECK.noIndex("ring(-1, 0)", () -> x.ring(-1, 0));
        CHECK.noIndex("ring(3, 4)", () -> x.ring(3, 4));
        CHECK.noArgument("ring(0, 4)", () -> x.ring(0, 4));
        CHECK.noArgument("ring(2, -1)", () -> x.ring(2, -1));
        rings("M20990/1!0!");
    }

    private static void ringOfThreeAndOrder() {
        // 0 -> 2 -> 1 -> 0 in one round.
        rings("M3" + "990" + "099" + "909", new int[] {7, 3, 0, 27});
        // Round 0: 3 alone; round 1: 1 and 2 exchange; round 2: 0 alone, who wanted 1, then 2.
        rings("M4" + "5123" + "9810" + "9180" + "9990",
            new int[] {8, 1, 0, 0}, new int[] {6, 2, 1, 7 + 7}, new int[] {1, 1, 2, 0});
    }

    private static void whyNot() {
        TradeRings x = Markets.of(ROUNDS);
        CHECK.same("they can", x.whyNot(1, 2), 0);
        CHECK.same("they can, the other way", x.whyNot(2, 1), 0);
        CHECK.same("both are the same", x.whyNot(1, 1), 1);
        CHECK.same("i would like it less", x.whyNot(0, 3), 4);
        CHECK.same("j would like it less", x.whyNot(0, 1), 5);
        CHECK.same("i comes before j", x.whyNot(1, 3), 4);
        CHECK.same("one alike, the other less", x.whyNot(3, 1), 5);
        CHECK.noIndex("whyNot(4, 0)", () -> x.whyNot(4, 0));
        CHECK.noIndex("whyNot(0, 4)", () -> x.whyNot(0, 4));
        CHECK.noIndex("whyNot(-1, -1)", () -> x.whyNot(-1, -1));
        TradeRings alike = Markets.of("M3" + "555" + "515" + "551");
        CHECK.same("less by one", Markets.of("M25650").whyNot(0, 1), 4);
        CHECK.same("less by one", Markets.of("M25065").whyNot(0, 1), 5);
        CHECK.same("neither likes it better", Markets.of("M25555").whyNot(0, 1), 6);
        CHECK.same("j likes it less", alike.whyNot(0, 1), 5);
        CHECK.same("one better, one alike", Markets.of("M25155").whyNot(0, 1), 0);
        CHECK.same("one alike, one better", Markets.of("M25515").whyNot(0, 1), 0);
        TradeRings left = Markets.of("M3" + "555" + "515" + "551" + "/0!1!2");
        CHECK.same("the same one who left", left.whyNot(0, 0), 1);
        CHECK.same("both have left", left.whyNot(0, 1), 2);
        CHECK.same("i has left", left.whyNot(0, 2), 2);
        CHECK.same("j has left", left.whyNot(2, 0), 3);
        CHECK.same("by what they hold, not own", Markets.of("M20990/10").whyNot(0, 1), 0);
    }
}
