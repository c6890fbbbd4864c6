import java.math.BigInteger;

/** Promises 27 and 28: scripts and simulations. */
public final class ScriptsTest {
    private static final Check CHECK = new Check("ScriptsTest");
    private static final int NONE = TradeRings.NONE;
    private static final String ROUNDS = "M4" + "2019" + "5417" + "6238" + "1121";

    public static void main(String[] args) {
        arguments();
        commands();
        commandsWithDigitsTooMany();
        commandsInARow();
        onACopy();
        simulate();
        simulateByHand();
        CHECK.end();
    }

    private static void arguments() {
        TradeRings x = Markets.of(ROUNDS);
        CHECK.noArgument("no command", () -> x.runScript(0, 0));
        CHECK.noArgument("five commands", () -> x.runScript(5, 0));
        CHECK.noArgument("fewer than none", () -> x.runScript(-1, 3000));
        CHECK.noArgument("a negative script", () -> x.runScript(1, -1));
        CHECK.noArgument("the least script", () -> x.runScript(4, Long.MIN_VALUE));
        CHECK.noArgument("five digits for one", () -> x.runScript(1, 10000));
        CHECK.noArgument("nine digits for two", () -> x.runScript(2, 100000000L));
        CHECK.noArgument("thirteen digits for three", () -> x.runScript(3, 1000000000000L));
        CHECK.noArgument("seventeen digits for four", () -> x.runScript(4, 10000000000000000L));
        CHECK.noArgument("the greatest script", () -> x.runScript(4, Long.MAX_VALUE));
        CHECK.same("zeros before it", x.runScript(2, 3000), 0);
        CHECK.same("nothing but zeros", x.runScript(4, 0), 0);
        CHECK.same("all digits of one", x.runScript(1, 9999), 0);
        CHECK.same("all digits of four", x.runScript(4, 9999999999999999L), 0);
    }

    private static void command(String text, int command, boolean succeeds) {
        TradeRings x = Markets.of(text);
        CHECK.same("the command " + command + " on " + text, x.runScript(1, command), succeeds ? NONE : 0);
    }

    private static void commands() {
        command(ROUNDS, 1120, true);
        command(ROUNDS, 1210, true);
        command(ROUNDS, 1110, false);
        command(ROUNDS, 1030, false);
        command(ROUNDS, 1140, false);
        command(ROUNDS, 1410, false);
        command(ROUNDS + "/012!3", 1120, false);
        command(ROUNDS, 2000, true);
        command(ROUNDS, 2200, true);
        command(ROUNDS, 2300, false);
        command(ROUNDS, 3000, true);
        command(ROUNDS, 4300, true);
        command(ROUNDS, 4400, false);
        command(ROUNDS + "/0!123", 4000, false);
        command(ROUNDS, 5000, true);
        command(ROUNDS, 5339, true);
        command(ROUNDS, 5430, false);
        command(ROUNDS, 5340, false);
        command(ROUNDS, 6000, true);
        command(ROUNDS, 7110, true);
        command(ROUNDS, 7120, false);
        command(ROUNDS + "/02!13", 7120, true);
        command(ROUNDS, 7440, false);
        command(ROUNDS, 7040, false);
        command(ROUNDS, 8010, true);
        command(ROUNDS, 8009, false);
        command(ROUNDS, 8099, true);
        command(ROUNDS, 8011, true);
        command("M7" + "9".repeat(49), 8062, false);
        command("M7" + "9".repeat(49), 8063, true);
        command("M25115", 9000, false);
        command("M25115", 9001, true);
        command("M25155", 9000, false);
        command("M25155", 9010, true);
        command("M25115", 9010, false);
        command("M25115", 9011, true);
        command("M20990/10", 9002, false);
        command("M20990/10", 9003, true);
        command("M20990/10", 9009, true);
    }

    private static void commandsWithDigitsTooMany() {
        command(ROUNDS, 0, false);
        command(ROUNDS, 1, false);
        command(ROUNDS, 999, false);
        command(ROUNDS, 1121, false);
        command(ROUNDS, 2001, false);
        command(ROUNDS, 2010, false);
        command(ROUNDS, 3001, false);
        command(ROUNDS, 3010, false);
        command(ROUNDS, 3100, false);
        command(ROUNDS, 4001, false);
        command(ROUNDS, 4010, false);
        command(ROUNDS, 6001, false);
        command(ROUNDS, 6010, false);
        command(ROUNDS, 6100, false);
        command(ROUNDS, 7111, false);
        command(ROUNDS, 8199, false);
        command(ROUNDS, 9109, false);
        command("M15", 9009, true);
        command("M15", 9019, true);
        command("M15", 9029, false);
        command("M15", 9099, false);
        command("M15", 9119, false);
    }

    private static void commandsInARow() {
        TradeRings x = Markets.of(ROUNDS);
        CHECK.same("each on what the ones before it made", x.runScript(3, 1120_7120_7210L), NONE);
        CHECK.same("the exchange cannot be done twice", x.runScript(2, 1120_1120L), 1);
        CHECK.same("the first one that fails", x.runScript(4, 3000_0000_3000_0000L), 1);
        CHECK.same("the last one", x.runScript(4, 3000_3000_3000_0001L), 3);
        CHECK.same("leave, then exchange", x.runScript(2, 4200_1120L), 1);
        CHECK.same("leave twice", x.runScript(3, 4200_4100_4200L), 2);
        CHECK.same("leave, then home again", x.runScript(4, 4200_6000_1120_7120L), NONE);
        CHECK.same("a ring, then the ranks", x.runScript(3, 2000_8006_8005L), 2);
        CHECK.same("a ring of one, then the ranks", x.runScript(3, 2100_8010_8009L), 2);
        CHECK.same("the trading, then its things", x.runScript(4, 3000_7000_7120_7330L), NONE);
        CHECK.same("the rings of what is held then", x.runScript(2, 2000_2300L), NONE);
        CHECK.same("a rank, then the trading", Markets.of(ROUNDS).runScript(4, 5110_3000_7110_7220L), NONE);
        CHECK.same("a rank, then a ring of one", Markets.of(ROUNDS).runScript(3, 5110_2000_7110L), NONE);
        CHECK.same("a ring, then what it gave", Markets.of(ROUNDS).runScript(3, 2000_7120_7210L), NONE);
        CHECK.same("one trader does not exist", x.runScript(2, 1140_3000L), 0);
        CHECK.same("a rank, then an exchange", x.runScript(3, 5019_5000_1010L), 2);
        CHECK.same("a rank, then the ranks", x.runScript(2, 5009_8016L), 1);
        CHECK.same("a rank, then the ranks", x.runScript(2, 5009_8017L), NONE);
    }

    private static void onACopy() {
        TradeRings x = Markets.of(ROUNDS);
        x.setRank(0, 0, 3);
        String before = Markets.picture(x);
        x.runScript(4, 3000_4000_5119_7000L);
        x.runScript(1, 1120);
        x.simulate(5, 99);
        CHECK.same("nothing is different", Markets.picture(x), before);
        CHECK.same("no action is remembered", Markets.remembered(x), 1);
        TradeRings other = Markets.of(ROUNDS + "/1!0!23");
        before = Markets.picture(other);
        other.runScript(1, 6000);
        CHECK.same("home on a copy", Markets.picture(other), before);
    }

    /** The same by numbers of any size, on an object that is really changed. */
    private static long simulated(String text, long seed, int meetings) {
        TradeRings x = Markets.of(text);
        BigInteger wrap = BigInteger.ONE.shiftLeft(64);
        BigInteger state = BigInteger.valueOf(seed).mod(wrap);
        int exchanges = 0;
        for (int k = 0; k < meetings; k++) {
            state = state.multiply(new BigInteger("6364136223846793005"))
                .add(new BigInteger("1442695040888963407")).mod(wrap);
            int r = state.shiftRight(33).intValueExact();
            int i = r / 16 % x.about(0);
            int j = r / 256 % x.about(0);
            if (x.whyNot(i, j) == 0) {
                x.exchange(i, j);
                exchanges++;
            }
            if (r % 16 == 0 && x.trader(i, 2) == 1) {
                x.leave(i);
            }
        }
        return 1000L * exchanges + 100 * x.about(1) + x.about(3);
    }

    private static void simulate() {
        String[] texts = {ROUNDS, "M15", "M25115", "M7" + "9876543" + "0123456".repeat(6),
            "M5" + "90123" + "29013" + "12903" + "01293" + "31209", ROUNDS + "/1!023"};
        long[] seeds = {0, 1, -1, 77, Long.MIN_VALUE, Long.MAX_VALUE, 123456789012345L};
        for (String text : texts) {
            TradeRings x = Markets.of(text);
            for (long seed : seeds) {
                for (int m = 1; m <= 25; m += 6) {
                    CHECK.same("simulate(" + seed + ", " + m + ") of " + text, x.simulate(seed, m),
                        simulated(text, seed, m));
                }
            }
        }
        TradeRings x = Markets.of("M15");
        CHECK.noArgument("simulate(1, 0)", () -> x.simulate(1, 0));
        CHECK.noArgument("simulate(1, 100)", () -> x.simulate(1, 100));
        CHECK.noArgument("simulate(1, -1)", () -> x.simulate(1, -1));
        CHECK.same("no traders", new TradeRings().simulate(1, 1), 0);
    }

    private static void simulateByHand() {
        long r = 1442695040888963407L >>> 33;
        CHECK.same("r of the seed 0", r, 167951807);
        CHECK.same("the first one", r / 16 % 2, 1);
        CHECK.same("the second one", r / 256 % 2, 1);
        CHECK.same("one meeting with itself", Markets.of("M25115").simulate(0, 1), 210);
        CHECK.same("the first one of three", r / 16 % 3, 2);
        CHECK.same("the second one of three", r / 256 % 3, 0);
        CHECK.same("one exchange", Markets.of("M3" + "591" + "999" + "195").simulate(0, 1),
            1000 + 300 + 1 + 1 + 9);
        // A seed of which the first x has r % 16 == 0.
        long seed = 0;
        while ((seed * 6364136223846793005L + 1442695040888963407L >>> 33) % 16 != 0) {
            seed++;
        }
        CHECK.same("one alone leaves", Markets.of("M15").simulate(seed, 1), 5);
        CHECK.same("one who has left", Markets.of("M15/0!").simulate(seed, 1), 5);
        int first = (int) ((seed * 6364136223846793005L + 1442695040888963407L >>> 33) / 16 % 2);
        TradeRings x = Markets.of("M25195");
        CHECK.same("the first one leaves", x.simulate(seed, 1), 110);
        x.leave(first);
        CHECK.same("the first one has left", x.simulate(seed, 1), 110);
    }
}
