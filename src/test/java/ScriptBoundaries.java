/** The boundaries of the promises 27 and 28, sentence by sentence. */
final class ScriptBoundaries {
    private static final int NONE = TradeRings.NONE;
    private static final String ROUNDS = "M4" + "2019" + "5417" + "6238" + "1121";
    private static final String ALL_LEFT = "/0!1!2!3!4!5!6!";
    private static final long MULTIPLIER = 6364136223846793005L;
    private static final long INCREMENT = 1442695040888963407L;

    private final Check check;
    private final Whole whole;

    ScriptBoundaries(Check check) {
        this.check = check;
        whole = new Whole(check);
    }

    void all() {
        oneToFourCommands();
        noCommands();
        scriptNumbers();
        highestGroupFirst();
        zerosBefore();
        exchangeCommand();
        ringCommand();
        tradeCommand();
        leaveCommand();
        rankCommand();
        homeCommand();
        thingCommand();
        ranksCommand();
        groupsCommand();
        whatDoesNotExist();
        anyOtherGroup();
        firstThatFails();
        onACopy();
        meetings();
        noMeetings();
        simulationOnACopy();
        numbersOfMeetings();
        withoutTraders();
        whoMeets();
        whoLeaves();
        simulationAnswers();
    }

    private void commands(String text, long script, int n, int due) {
        check.same("runScript(" + n + ", " + script + ") of " + text, Markets.of(text).runScript(n, script), due);
    }

    private void succeeds(String text, int command) {
        commands(text, command, 1, NONE);
    }

    private void fails(String text, int command) {
        commands(text, command, 1, 0);
    }

    // ---- promise 27: its arguments

    private void oneToFourCommands() {
        check.sentence("27", "- n: number of commands, 1 to 4");
        commands("M15", 3000L, 1, NONE);
        commands("M15", 3000_3000L, 2, NONE);
        commands("M15", 3000_3000_3000L, 3, NONE);
        commands("M15", 3000_3000_3000_3000L, 4, NONE);
        check.sentence("27", "A script has 1 to 4 commands; each is a group of four decimal digits d1 to d4");
        commands("M15", 9999L, 1, 0);
        commands("M15", 3000_3000_3000_9999L, 4, 3);
        commands("M15", 9999_9999_9999_9999L, 4, 0);
    }

    private void noCommands() {
        check.sentence("27", "Throws IllegalArgumentException if n is out of range, or if script is negative or has "
            + "more than 4 * n digits");
        int[] numbers = {0, 5, -1, Integer.MIN_VALUE, Integer.MAX_VALUE};
        for (int n : numbers) {
            whole.noArgument("runScript(" + n + ", 0)", Whole::rich, x -> x.runScript(n, 0));
            whole.noArgument("runScript(" + n + ", 3000)", Whole::rich, x -> x.runScript(n, 3000));
            whole.noArgument("runScript(" + n + ", -1)", Whole::rich, x -> x.runScript(n, -1));
        }
        long[] negative = {-1, -3000, -9999, Long.MIN_VALUE};
        for (long script : negative) {
            whole.noArgument("runScript(1, " + script + ")", Whole::rich, x -> x.runScript(1, script));
            whole.noArgument("runScript(4, " + script + ")", Whole::rich, x -> x.runScript(4, script));
        }
        long least = 1;
        for (int n = 1; n <= 4; n++) {
            least *= 10000;
            int groups = n;
            long[] tooLong = {least, least + 3000, 3000 * least, Long.MAX_VALUE};
            for (long script : tooLong) {
                whole.noArgument("runScript(" + n + ", " + script + ")", Whole::rich, x -> x.runScript(groups, script));
            }
        }
    }

    private void scriptNumbers() {
        check.sentence("27", "- script: the commands, a number of at most 4 * n digits (0 or more)");
        long above = 1;
        for (int n = 1; n <= 4; n++) {
            above *= 10000;
            commands("M15", 0, n, 0);
            commands("M15", above - 1, n, 0);
            commands("M15", 3000 * (above / 10000), n, n == 1 ? NONE : 1);
        }
    }

    private void highestGroupFirst() {
        check.sentence("27", "and the first command is the highest group of the number");
        commands(ROUNDS, 3000_0000L, 2, 1);
        commands(ROUNDS, 1120_7120L, 2, NONE);
        commands(ROUNDS, 7120_1120L, 2, 0);
        commands(ROUNDS, 7110_1120_7120_7110L, 4, 3);
    }

    private void zerosBefore() {
        check.sentence("27", "(with zeros before it, if it has fewer digits)");
        commands(ROUNDS, 3000L, 2, 0);
        commands(ROUNDS, 3000L, 4, 0);
        commands(ROUNDS, 3000_3000L, 3, 0);
        commands(ROUNDS, 30L, 1, 0);
        commands(ROUNDS, 0L, 4, 0);
    }

    // ---- promise 27: its commands

    private void exchangeCommand() {
        check.sentence("27", "1 i j 0: exchange(i, j)");
        commands(ROUNDS, 1120_7120_7210L, 3, NONE);
        commands(ROUNDS, 1210_7120_7210L, 3, NONE);
        check.sentence("27", "The commands 1 to 6 fail if the method would throw an exception");
        fails(ROUNDS, 1110);
        fails(ROUNDS, 1030);
        fails(ROUNDS + "/01!23", 1120);
        fails(ROUNDS + "/012!3", 1120);
        fails("M25555", 1010);
        fails(ROUNDS, 2300);
        fails(ROUNDS + "/01!23", 4100);
        fails(ROUNDS, 5400);
        fails(ROUNDS, 5040);
        commands(ROUNDS, 1120_1120L, 2, 1);
        commands(ROUNDS, 4100_4100L, 2, 1);
    }

    private void ringCommand() {
        check.sentence("27", "2 k 0 0: doRing(k)");
        commands(ROUNDS, 2000_7120_7210L, 3, NONE);
        commands(ROUNDS, 2100_7110L, 2, NONE);
        commands(ROUNDS, 2200_7110L, 2, NONE);
        succeeds("M7" + "5".repeat(49), 2600);
        fails("M7" + "5".repeat(49), 2700);
        fails("M7" + "5".repeat(49), 2900);
        fails("M15/0!", 2000);
    }

    private void tradeCommand() {
        check.sentence("27", "3 0 0 0: trade()");
        commands(ROUNDS, 3000_7120_7210_7000L, 4, NONE);
        succeeds("M15/0!", 3000);
        check.same("3000 without traders", new TradeRings().runScript(1, 3000), NONE);
    }

    private void leaveCommand() {
        check.sentence("27", "4 i 0 0: leave(i)");
        commands(ROUNDS, 4100_1120L, 2, 1);
        commands(ROUNDS, 4100_3000_7110L, 3, NONE);
        commands("M15", 4000_4000L, 2, 1);
        succeeds("M7" + "5".repeat(49), 4600);
    }

    private void rankCommand() {
        check.sentence("27", "5 i t r: setRank(i, t, r)");
        commands("M15", 5009_8008L, 2, 1);
        commands("M15", 5009_8009L, 2, NONE);
        commands("M15", 5000_8000L, 2, NONE);
        commands("M29009", 5000_5011_1010L, 3, 2);
        succeeds("M15/0!", 5007);
        succeeds("M7" + "5".repeat(49), 5669);
    }

    private void homeCommand() {
        check.sentence("27", "6 0 0 0: goHome()");
        commands(ROUNDS + "/3!210", 7030_6000_7000_4000L, 4, NONE);
        succeeds("M15", 6000);
        check.same("6000 without traders", new TradeRings().runScript(1, 6000), NONE);
    }

    private void thingCommand() {
        check.sentence("27", "7 i t 0: succeeds if the trader i holds the thing t or left with it");
        succeeds(ROUNDS + "/3!210", 7030);
        succeeds(ROUNDS + "/3!210", 7300);
        fails(ROUNDS + "/3!210", 7000);
        fails(ROUNDS + "/3!210", 7330);
        fails(ROUNDS + "/3!210", 7130);
        succeeds("M7" + "5".repeat(49), 7660);
        succeeds("M15/0!", 7000);
    }

    private void ranksCommand() {
        check.sentence("27", "8 0 x y: succeeds if the ranks of all things together are at most xy");
        for (int sum = 0; sum <= 9; sum++) {
            for (int most = 0; most <= 12; most++) {
                commands("M1" + sum, 8000 + most, 1, sum <= most ? NONE : 0);
            }
        }
        check.sentence("27", "xy is a decimal number");
        String nines = "M7" + "9".repeat(49);
        for (int most = 0; most <= 99; most++) {
            commands(nines, 8000 + most, 1, most >= 63 ? NONE : 0);
            commands(nines + ALL_LEFT, 8000 + most, 1, most >= 63 ? NONE : 0);
            commands(ROUNDS, 8000 + most, 1, most >= 10 ? NONE : 0);
        }
        check.same("8000 without traders", new TradeRings().runScript(1, 8000), NONE);
    }

    private void groupsCommand() {
        check.sentence("27", "9 0 m n: succeeds if at most n groups could do better (m is 0), or much better (m is 1)");
        // Two traders who want each other's things, and others who have nothing to share.
        String[] texts = {"M15", "M25445", "M3" + "545" + "455" + "555", "M4" + "5455" + "4555" + "5555" + "5555",
            "M5" + "54555" + "45555" + "5".repeat(15), "M6" + "545555" + "455555" + "5".repeat(24)};
        int[] some = {0, 1, 2, 4, 8, 16};
        int[] much = {0, 1, 1, 1, 1, 1};
        for (int k = 0; k < texts.length; k++) {
            for (int most = 0; most <= 9; most++) {
                commands(texts[k], 9000 + most, 1, some[k] <= most ? NONE : 0);
                commands(texts[k], 9010 + most, 1, much[k] <= most ? NONE : 0);
            }
        }
        fails(MarketBoundaries.ENVY, 9009);
        fails(MarketBoundaries.ENVY, 9019);
        check.same("9000 without traders", new TradeRings().runScript(1, 9000), NONE);
        check.same("9010 without traders", new TradeRings().runScript(1, 9010), NONE);
        commands("M25445", 9000_1010_9000L, 3, 0);
        commands("M25445", 1010_9000_9010L, 3, NONE);
    }

    private void whatDoesNotExist() {
        check.sentence("27", "commands with traders or things that do not exist fail");
        int[] commands = {1010, 1100, 1110, 1900, 4100, 4900, 5100, 5010, 5110, 5999, 7100, 7010, 7110, 7990, 2100};
        for (int command : commands) {
            fails("M15", command);
        }
        int[] ofSeven = {1070, 1700, 1890, 4700, 4800, 4900, 5070, 5700, 5999, 7070, 7700, 7770, 2700};
        for (int command : ofSeven) {
            fails("M7" + "5".repeat(49), command);
        }
        int[] ofNone = {1000, 2000, 4000, 5000, 7000};
        for (int command : ofNone) {
            check.same(command + " without traders", new TradeRings().runScript(1, command), 0);
        }
    }

    /** Every command that there can be, on markets of different kinds. */
    private void anyOtherGroup() {
        check.sentence("27", "and so does any other group (also one with another digit where a 0 is written)");
        String[] texts = {ROUNDS + "/02!13", "M25445", "M3" + "509" + "950" + "095" + "/120"};
        for (String text : texts) {
            Reference due = new Reference();
            for (int k = 0; k < text.length(); k++) {
                due.append(text.charAt(k));
            }
            due.load();
            TradeRings x = Markets.of(text);
            for (int command = 0; command < 10000; command++) {
                if (command % 400 == 0) {
                    x = Markets.of(text);
                }
                check.same("the command " + command + " on " + text, x.runScript(1, command),
                    due.runScript(1, command));
            }
        }
        int[] others = {0, 1, 100, 999, 1011, 2010, 2001, 3100, 3010, 3001, 4010, 4001, 6100, 6010, 6001, 7001,
            8100, 8199, 9020, 9029, 9099, 9100, 9119};
        for (int command : others) {
            fails("M25445", command);
        }
    }

    private void firstThatFails() {
        check.sentence("27", "Returns the index, from 0, of the first command that fails; NONE if all succeed");
        commands("M15", 0L, 1, 0);
        commands("M15", 3000_3000_3000_3000L, 4, NONE);
        for (int index = 0; index < 4; index++) {
            long script = 0;
            for (int k = 0; k < 4; k++) {
                script = script * 10000 + (k < index ? 3000 : 1000);
            }
            commands("M15", script, 4, index);
        }
        commands("M15", 3000_1000_3000_1000L, 4, 1);
    }

    private void onACopy() {
        check.sentence("27", "Runs a script on a copy of the state");
        long[] scripts = {1010, 2000, 3000, 4000, 5009, 6000, 4000_6000_5129_3000L, 3000_4100_1000_6000L};
        for (long script : scripts) {
            int n = script > 9999 ? 4 : 1;
            whole.unchanged("the script " + script, Whole::rich, x -> x.runScript(n, script));
            whole.unchanged("the script " + script, () -> Markets.of("M29009"), x -> x.runScript(n, script));
        }
        TradeRings x = Whole.rich();
        check.same("the same script", x.runScript(4, 4000_3000_6000_4000L), NONE);
        check.same("the same script again", x.runScript(4, 4000_3000_6000_4000L), NONE);
    }

    // ---- promise 28

    private void meetings() {
        check.sentence("28", "- m: number of meetings, 1 to 99");
        TradeRings x = Markets.of(ROUNDS);
        Reference due = referenceOf(ROUNDS);
        for (int m = 1; m <= 99; m++) {
            check.same("simulate(3, " + m + ")", x.simulate(3, m), due.simulate(3, m));
        }
        check.same("none leaves alone in one meeting", Markets.of("M15").simulate(0, 1), 105);
    }

    private void noMeetings() {
        check.sentence("28", "Throws IllegalArgumentException if m is out of range");
        int[] numbers = {0, 100, -1, Integer.MIN_VALUE, Integer.MAX_VALUE};
        for (int m : numbers) {
            whole.noArgument("simulate(0, " + m + ")", Whole::rich, x -> x.simulate(0, m));
            whole.noArgument("simulate(0, " + m + ") without traders", TradeRings::new, x -> x.simulate(0, m));
        }
    }

    private void simulationOnACopy() {
        check.sentence("28", "Simulates m meetings on a copy of the state");
        for (int m = 1; m <= 99; m += 49) {
            int meetings = m;
            whole.unchanged("simulate(1, " + m + ")", Whole::rich, x -> x.simulate(1, meetings));
            whole.unchanged("simulate(1, " + m + ")", () -> Markets.of(ROUNDS), x -> x.simulate(1, meetings));
        }
        TradeRings x = Markets.of(ROUNDS);
        int first = x.simulate(-1, 99);
        check.same("the same again", x.simulate(-1, 99), first);
    }

    private static Reference referenceOf(String text) {
        Reference due = new Reference();
        for (int k = 0; k < text.length(); k++) {
            due.append(text.charAt(k));
        }
        due.load();
        return due;
    }

    private void numbersOfMeetings() {
        check.sentence("28", "- seed: any long");
        long[] seeds = {0, 1, -1, Long.MIN_VALUE, Long.MAX_VALUE, Long.MIN_VALUE + 1, Long.MAX_VALUE - 1,
            1L << 31, 1L << 32, 1L << 33, -(1L << 33), 0x00000001FFFFFFFFL, 0xFFFFFFFE00000000L};
        String[] texts = {ROUNDS, "M7" + "9876543" + "0123456".repeat(6), ROUNDS + "/3!210",
            "M5" + "90123" + "29013" + "12903" + "01293" + "31209"};
        check.sentence("28", "At each meeting x is first replaced by x * 6364136223846793005L + 1442695040888963407L "
            + "(with long overflow), and r = (int) (x >>> 33) is computed");
        for (String text : texts) {
            TradeRings x = Markets.of(text);
            Reference due = referenceOf(text);
            for (long seed : seeds) {
                check.sentence("28", "- seed: any long");
                check.same("simulate(" + seed + ", 1) of " + text, x.simulate(seed, 1), due.simulate(seed, 1));
                check.sentence("28", "A long x starts as the seed (once)");
                check.same("simulate(" + seed + ", 2) of " + text, x.simulate(seed, 2), due.simulate(seed, 2));
                check.same("simulate(" + seed + ", 99) of " + text, x.simulate(seed, 99), due.simulate(seed, 99));
                check.sentence("28", "At each meeting x is first replaced by x * 6364136223846793005L + "
                    + "1442695040888963407L (with long overflow), and r = (int) (x >>> 33) is computed");
                check.same("simulate(" + seed + ", 30) of " + text, x.simulate(seed, 30), due.simulate(seed, 30));
            }
        }
    }

    private void withoutTraders() {
        check.sentence("28", "If N, the number of traders, is not 0, the traders r / 16 % N and r / 256 % N exchange "
            + "what they hold, if they can");
        for (long seed = -20; seed <= 20; seed++) {
            check.same("simulate(" + seed + ", 99)", new TradeRings().simulate(seed, 99), 0);
        }
    }

    /** A seed whose first meeting has this r % 16 and, of n traders, these two. */
    private static long seedOf(int n, int i, int j, boolean leaves) {
        for (long seed = 0; seed < 1000000; seed++) {
            int r = (int) (seed * MULTIPLIER + INCREMENT >>> 33);
            if (r / 16 % n == i && r / 256 % n == j && (r % 16 == 0) == leaves) {
                return seed;
            }
        }
        throw new AssertionError();
    }

    private void whoMeets() {
        // Only 0 and 1 want each other's things; N counts those who left too.
        String text = "M3" + "509" + "059" + "995";
        for (int i = 0; i < 3; i++) {
            for (int j = 0; j < 3; j++) {
                long seed = seedOf(3, i, j, false);
                boolean exchange = i + j == 1;
                check.same(i + " meets " + j, Markets.of(text).simulate(seed, 1), exchange ? 1305 : 315);
                check.same(i + " meets " + j + " without 2", Markets.of(text + "/012!").simulate(seed, 1),
                    exchange ? 1205 : 215);
                check.same(i + " meets " + j + " without 0", Markets.of(text + "/0!12").simulate(seed, 1), 215);
            }
        }
    }

    private void whoLeaves() {
        check.sentence("28", "if r % 16 is 0, the first one of them leaves then, if it is present");
        String text = "M3" + "509" + "059" + "995";
        for (int i = 0; i < 3; i++) {
            for (int j = 0; j < 3; j++) {
                long seed = seedOf(3, i, j, true);
                // They exchange before the first one leaves.
                check.same(i + " meets " + j + " and leaves", Markets.of(text).simulate(seed, 1),
                    i + j == 1 ? 1205 : 215);
                check.same(i + " meets " + j + " without 1", Markets.of(text + "/01!2").simulate(seed, 1),
                    i == 1 ? 215 : 115);
                check.same(i + " meets " + j + " when all have left",
                    Markets.of(text + "/0!1!2!").simulate(seed, 1), 15);
            }
        }
        check.same("one alone", Markets.of("M15").simulate(seedOf(1, 0, 0, true), 1), 5);
        check.same("one alone stays", Markets.of("M15").simulate(seedOf(1, 0, 0, false), 1), 105);
    }

    private void simulationAnswers() {
        check.sentence("28", "Returns 1000 * (how many exchanges there are) + 100 * (the number of traders who are "
            + "present at the end) + (the ranks of all things together at the end)");
        String nines = "M7" + "9".repeat(49);
        check.same("none of seven stays", Markets.of(nines + ALL_LEFT).simulate(7, 99), 63);
        check.same("one exchange", Markets.of("M29009").simulate(seedOf(2, 0, 1, false), 1), 1200);
        check.same("one exchange, one who leaves", Markets.of("M29009").simulate(seedOf(2, 1, 0, true), 1), 1100);
        check.same("no exchange", Markets.of("M29999").simulate(seedOf(2, 0, 1, false), 1), 218);
        check.same("seven stay", Markets.of(nines).simulate(seedOf(7, 3, 4, false), 1), 763);
        check.same("six stay", Markets.of(nines).simulate(seedOf(7, 6, 6, true), 1), 663);
    }
}
