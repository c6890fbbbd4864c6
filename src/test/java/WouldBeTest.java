/** Promises 20 to 26: what would be. */
public final class WouldBeTest {
    private static final Check CHECK = new Check("WouldBeTest");
    private static final int NONE = TradeRings.NONE;
    private static final String ROUNDS = "M4" + "2019" + "5417" + "6238" + "1121";
    /** 0 comes to the thing 2 only by the thing 1. */
    private static final String CHAIN = "M3" + "543" + "559" + "955";

    public static void main(String[] args) {
        groups();
        groupsByWhatTheyOwn();
        smallestGroup();
        least();
        leastOf();
        betterWays();
        harms();
        fewest();
        CHECK.end();
    }

    private static void groupsOf(String text, int much, int countOfMuch, int some, int countOfSome) {
        TradeRings x = Markets.of(text);
        CHECK.same("group(true) of " + text, x.group(true), much);
        CHECK.same("groups(true) of " + text, x.groups(true), countOfMuch);
        CHECK.same("group(false) of " + text, x.group(false), some);
        CHECK.same("groups(false) of " + text, x.groups(false), countOfSome);
        CHECK.noState("groups are no actions", x::undo);
    }

    private static void groups() {
        groupsOf("M25115", 3, 1, 3, 1);
        groupsOf("M25115/10", NONE, 0, NONE, 0);
        groupsOf("M25155", NONE, 0, 3, 1);
        groupsOf("M25555", NONE, 0, NONE, 0);
        groupsOf("M25195", NONE, 0, NONE, 0);
        groupsOf("M15", NONE, 0, NONE, 0);
        groupsOf("M15/0!", NONE, 0, NONE, 0);
        TradeRings x = Markets.of("M25115");
        CHECK.same("before", x.groups(false), 1);
        x.setRank(0, 1, 9);
        x.setRank(1, 0, 9);
        CHECK.same("other ranks, other groups", x.groups(false), 0);
        // Only the three together: 0 wants 1, 1 wants 2, 2 wants 0.
        groupsOf("M3" + "509" + "950" + "095", 7, 1, 7, 1);
        // The same, but 2 likes all alike: with it, and it and 0 have nothing to share.
        groupsOf("M3" + "509" + "950" + "555", NONE, 0, 6, 2);
    }

    private static void groupsByWhatTheyOwn() {
        // Each alone would be better off with its own thing.
        groupsOf("M20990/10", 1, 3, 1, 3);
        // Those who left count as well, with the things that they own.
        groupsOf("M25115/0!1!", 3, 1, 3, 1);
        groupsOf("M20990/1!0!", 1, 3, 1, 3);
        // 1 holds the own thing and can give no more than that; 0 and 2 hold each other's.
        groupsOf("M3" + "050" + "505" + "555" + "/210", NONE, 0, NONE, 0);
        groupsOf("M3" + "055" + "505" + "555" + "/210", 1, 1, 1, 4);
    }

    private static void smallestGroup() {
        // {2} has fewer traders than {0, 1}, but a greater number.
        groupsOf("M3" + "509" + "095" + "990" + "/021", 4, 3, 4, 4);
        // {0, 2} and {1, 2}: the smaller number.
        CHECK.same("the smallest number", Markets.of("M3" + "591" + "951" + "115").group(true), 5);
        CHECK.same("how many there are", Markets.of("M3" + "591" + "951" + "115").groups(true), 2);
        // {1, 2} before {0, 1, 2}.
        CHECK.same("the fewest traders", Markets.of("M3" + "511" + "151" + "915").group(false), 3);
        CHECK.same("the fewest traders", Markets.of("M3" + "519" + "951" + "115").group(true), 6);
    }

    private static void leasts(String text, int sum, int... things) {
        TradeRings x = Markets.of(text);
        CHECK.same("least() of " + text, x.least(), sum);
        for (int i = 0; i < things.length; i++) {
            CHECK.same("leastOf(" + i + ") of " + text, x.leastOf(i), things[i]);
        }
    }

    private static void least() {
        leasts("M15", 5, 0);
        leasts("M20990", 0, 0, 1);
        leasts("M29009", 0, 1, 0);
        // Not each what it likes best: 0 gives way.
        leasts("M21305", 3, 1, 0);
        leasts("M3" + "012" + "090" + "099", 1, 1, 2, 0);
        // Only present ones, and what they hold.
        leasts("M3" + "000" + "987" + "654" + "/2!01", 9 + 5, NONE, 0, 1);
        leasts("M3" + "000" + "917" + "154" + "/2!01", 1 + 1, NONE, 1, 0);
        leasts("M3" + "123" + "123" + "123" + "/1!2!0!", 0, NONE, NONE, NONE);
        leasts("M3" + "123" + "123" + "123" + "/1!2!0", 1, NONE, NONE, 0);
        leasts("M7" + "9".repeat(49), 63, 0, 1, 2, 3, 4, 5, 6);
    }

    private static void leastOf() {
        // All alike: the lowest trader gets the lowest thing, whatever they hold.
        leasts("M25555/10", 10, 0, 1);
        leasts("M3" + "555" + "555" + "555" + "/201", 15, 0, 1, 2);
        leasts("M3" + "555" + "555" + "555" + "/20!1", 10, 1, NONE, 2);
        // 0 and 1 or 1 and 2 may exchange: 0 keeps the thing 0.
        leasts("M3" + "119" + "111" + "911", 3, 0, 1, 2);
        // 0 may have 1 or 2, the rest follows.
        leasts("M3" + "911" + "199" + "911", 3, 1, 0, 2);
        CHECK.same("leastOf without least", Markets.of("M3" + "012" + "090" + "099").leastOf(0), 1);
        TradeRings x = Markets.of("M25555");
        CHECK.noIndex("leastOf(2)", () -> x.leastOf(2));
        CHECK.noIndex("leastOf(-1)", () -> x.leastOf(-1));
    }

    private static void ways(String text, int due) {
        CHECK.same("betterWays() of " + text, Markets.of(text).betterWays(), due);
    }

    private static void betterWays() {
        ways("M15", 0);
        ways("M25115", 1);
        ways("M25155", 1);
        ways("M25195", 0);
        ways("M25555", 0);
        ways("M25115/10", 0);
        ways("M25115/0!1", 0);
        ways("M25115/0!1!", 0);
        // All share but the ways in which 0 keeps a thing of the same rank.
        ways("M3" + "511" + "555" + "555", 4);
        ways("M4" + "5113" + "5555" + "5555" + "5555", 18);
        ways("M7" + "1000000" + "1".repeat(42), 5040 - 720);
        ways("M3" + "090" + "090" + "009" + "/210", 2);
        ways("M3" + "099" + "909" + "990" + "/210", 1);
        // All but the two in which nobody gets the own thing.
        ways("M3" + "099" + "909" + "990" + "/201", 4);
        ways("M3" + "099" + "909" + "990" + "/20!1", 1);
        ways("M3" + "099" + "909" + "990" + "/20!1!", 0);
        ways("M3" + "091" + "009" + "190" + "/2!01", 1);
    }

    private static void harms() {
        TradeRings x = Markets.of(ROUNDS);
        CHECK.same("harms(0)", x.harms(0), 0);
        CHECK.same("harms(1): 2 gets its own thing", x.harms(1), 4);
        CHECK.same("harms(2): 1 gets its own thing", x.harms(2), 2);
        CHECK.same("harms(3)", x.harms(3), 0);
        CHECK.noIndex("harms(4)", () -> x.harms(4));
        CHECK.noIndex("harms(-1)", () -> x.harms(-1));
        CHECK.same("harms changes nothing", Markets.picture(x), ROUNDS + "/0123 text -9");
        x.leave(2);
        CHECK.same("harms(2) who has left", x.harms(2), 0);
        CHECK.same("harms(1) when 2 has left", x.harms(1), 0);
        // 1 gets what it likes alike without 0: that is no harm.
        CHECK.same("alike is no harm", Markets.of("M3" + "905" + "195" + "555").harms(0), 2);
        CHECK.same("alike is no harm", Markets.of("M3" + "905" + "191" + "905").harms(0), 0);
        CHECK.same("two are harmed", Markets.of("M3" + "990" + "099" + "909").harms(1), 5);
    }

    private static void fewest() {
        TradeRings x = Markets.of(CHAIN);
        long[][] due = {{0, 1, 2}, {1, 0, NONE}, {NONE, 2, 0}};
        for (int i = 0; i < 3; i++) {
            for (int t = 0; t < 3; t++) {
                CHECK.same("fewest(" + i + ", " + t + ")", x.fewest(i, t), due[i][t]);
            }
        }
        CHECK.noIndex("fewest(3, 0)", () -> x.fewest(3, 0));
        CHECK.noIndex("fewest(0, 3)", () -> x.fewest(0, 3));
        CHECK.noIndex("fewest(-1, 0)", () -> x.fewest(-1, 0));
        CHECK.noIndex("fewest(0, -1)", () -> x.fewest(0, -1));
        CHECK.same("fewest changes nothing", Markets.picture(x), CHAIN + "/012 text -9");
        TradeRings left = Markets.of(CHAIN + "/01!2");
        CHECK.same("what it left with", left.fewest(1, 1), NONE);
        CHECK.same("nobody else can get it", left.fewest(0, 1), NONE);
        CHECK.same("not by one who left", left.fewest(0, 2), NONE);
        CHECK.same("what it holds", left.fewest(0, 0), 0);
        TradeRings held = Markets.of("M20990/10");
        CHECK.same("0 by what it holds now", held.fewest(0, 1), 0);
        CHECK.same("the own thing by one exchange", held.fewest(0, 0), 1);
        // Seven in a row, each of whom takes what 0 has in turn.
        TradeRings row = Markets.of("M7" + "9876543" + "9999999".repeat(6));
        CHECK.same("straight to the last thing", row.fewest(0, 6), 1);
        TradeRings steps = Markets.of("M7" + "9876543" + "5599999" + "9559999" + "9955999" + "9995599"
            + "9999559" + "9999955");
        CHECK.same("step by step to the last thing", steps.fewest(0, 6), 6);
        CHECK.same("nor can 6 come further", steps.fewest(6, 4), NONE);
        CHECK.same("once more behind another search", steps.fewest(0, 3), 3);
        manyWays();
    }

    private static void manyWays() {
        // Tens of thousands of ways lead on, but to far fewer sharings.
        TradeRings many = Markets.of("M7" + "9400041" + "5550146" + "1266263" + "1145506" + "7725826"
            + "7685351" + "5756601");
        CHECK.same("many ways", many.fewest(0, 6), 7);
        // The last sharings of all: 4, 5 and 6 hold 2, 1 and 0; 4 comes to 0 by 1.
        TradeRings last = Markets.of("M7" + "9999999".repeat(4) + "3459999" + "9559999" + "5599999" + "/6543210");
        CHECK.same("the thing between", last.fewest(4, 1), 1);
        CHECK.same("by the thing between", last.fewest(4, 0), 2);
        CHECK.same("and the other one", last.fewest(6, 1), 2);
        CHECK.same("not further", last.fewest(6, 2), NONE);
    }
}
