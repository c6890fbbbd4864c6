/** The boundaries of the promises 20 to 26 and of GROUPS, sentence by sentence. */
final class WouldBeBoundaries {
    private static final int NONE = TradeRings.NONE;
    private static final int[] NOT_OF_THREE = {-1, 3, 7, Integer.MIN_VALUE, Integer.MAX_VALUE};
    private static final String CIRCLE = MarketBoundaries.CIRCLE;
    private static final String ENVY = MarketBoundaries.ENVY;
    private static final String ALIKE = "M7" + "5".repeat(49);
    private static final String ALL_LEFT = "/0!1!2!3!4!5!6!";
    /** Each of seven wants only what it owns, and holds what the next one owns. */
    private static final String HOMESICK = "M7" + "0999999" + "9099999" + "9909999" + "9990999" + "9999099"
        + "9999909" + "9999990" + "/1234560";
    /** 0 wants what 1 has, 1 what 2 has, 2 what 0 has; 5 and 6 want each other's things. */
    private static final String TWO_RINGS = "M7" + "5099999" + "9509999" + "0959999" + "9995999" + "9999599"
        + "9999950" + "9999905";
    /** 0 comes to the thing 2 only by the thing 1. */
    private static final String CHAIN = "M3" + "543" + "559" + "955";
    /** 0 comes to the thing 6 only by all things between. */
    private static final String LONG_CHAIN = "M7" + "9876543" + "5599999" + "9559999" + "9955999" + "9995599"
        + "9999559" + "9999955";

    private final Check check;
    private final Whole whole;

    WouldBeBoundaries(Check check) {
        this.check = check;
        whole = new Whole(check);
    }

    void all() {
        changeNothing();
        better();
        atLeastOne();
        presentOrNot();
        ownThings();
        leftWith();
        muchBetter();
        fewestTraders();
        smallestNumber();
        noGroup();
        kindsOfGroups();
        countOfAllGroups();
        leastSum();
        leastOfPresent();
        leastOfNobody();
        leastOf();
        leastOfAlike();
        leastOfThoseWhoLeft();
        leastOfNoTrader();
        betterWays();
        betterWaysOfPresent();
        mostBetterWays();
        harms();
        harmsOfThoseWhoLeft();
        harmsOfNoTrader();
        fewest();
        fewestOfThingHeld();
        fewestThatAreNone();
        fewestOfNobody();
        askedAgain();
        fewestAskedAgain();
    }

    private void changeNothing() {
        check.sentence("EXCEPTIONS", "---- what would be; these and all following methods up to the save slots "
            + "change nothing");
        Whole.Maker[] makers = {Whole::rich, Whole::richWithMarket, () -> Markets.of(CHAIN + "/120")};
        for (Whole.Maker maker : makers) {
            whole.unchanged("group(false)", maker, x -> x.group(false));
            whole.unchanged("group(true)", maker, x -> x.group(true));
            whole.unchanged("groups(false)", maker, x -> x.groups(false));
            whole.unchanged("groups(true)", maker, x -> x.groups(true));
            whole.unchanged("least()", maker, x -> x.least());
            whole.unchanged("betterWays()", maker, x -> x.betterWays());
            for (int i = 0; i < 3; i++) {
                int k = i;
                whole.unchanged("leastOf(" + k + ")", maker, x -> x.leastOf(k));
                whole.unchanged("harms(" + k + ")", maker, x -> x.harms(k));
                whole.unchanged("fewest(" + k + ", 0)", maker, x -> x.fewest(k, 0));
                whole.unchanged("fewest(0, " + k + ")", maker, x -> x.fewest(0, k));
            }
            whole.unchanged("a script", maker, x -> x.runScript(4, 5000_3000_6000_4000L));
            whole.unchanged("a script that fails", maker, x -> x.runScript(4, 6000_3000_4000_4000L));
            whole.unchanged("a simulation", maker, x -> x.simulate(1, 99));
        }
    }

    // ---- GROUPS and promises 20 and 21

    private void groupsOf(String text, int some, int countOfSome, int much, int countOfMuch) {
        TradeRings x = Markets.of(text);
        check.same("group(false) of " + text, x.group(false), some);
        check.same("groups(false) of " + text, x.groups(false), countOfSome);
        check.same("group(true) of " + text, x.group(true), much);
        check.same("groups(true) of " + text, x.groups(true), countOfMuch);
    }

    private void better() {
        check.sentence("GROUPS", "so that none of them likes the thing that it gets less than the one that it holds "
            + "(or left with), and somebody likes it better");
        groupsOf("M25445", 3, 1, 3, 1);
        groupsOf("M25455", 3, 1, NONE, 0);
        groupsOf("M25545", 3, 1, NONE, 0);
        groupsOf("M25555", NONE, 0, NONE, 0);
        groupsOf("M25465", NONE, 0, NONE, 0);
        groupsOf("M25645", NONE, 0, NONE, 0);
        groupsOf("M25665", NONE, 0, NONE, 0);
        groupsOf("M20909", NONE, 0, NONE, 0);
        // Somebody is enough, but it must be one of them: 3 and 4 alone have nothing to gain.
        groupsOf(TWO_RINGS, 96, 32 + 16 - 4, 96, 3);
    }

    private void atLeastOne() {
        check.sentence("GROUPS", "A group (some traders, at least one, whether they are present or not) could do "
            + "better if the things that its traders own could be shared among them, one for each");
        groupsOf("M15", NONE, 0, NONE, 0);
        groupsOf("M10", NONE, 0, NONE, 0);
        // One alone, who holds another one's thing.
        groupsOf("M20955/10", 1, 2, 1, 1);
        groupsOf("M25090/10", 2, 1, 2, 1);
        groupsOf(HOMESICK, 1, 127, 1, 127);
    }

    private void presentOrNot() {
        groupsOf("M29009/0!1!", 3, 1, 3, 1);
        groupsOf("M29009/0!1", 3, 1, 3, 1);
        groupsOf("M29009/01!", 3, 1, 3, 1);
        groupsOf(HOMESICK.replaceAll("/.*", "/1!2!3!4!5!6!0!"), 1, 127, 1, 127);
        groupsOf(CIRCLE + ALL_LEFT, 127, 1, 127, 1);
    }

    /** What its traders own, not what they hold. */
    private void ownThings() {
        groupsOf("M29009/10", NONE, 0, NONE, 0);
        groupsOf("M20990/10", 1, 3, 1, 3);
        // 0 wants the thing 2, which 1 holds and 2 owns.
        groupsOf("M3" + "550" + "555" + "555" + "/021", 5, 2, NONE, 0);
        groupsOf("M3" + "550" + "559" + "555" + "/021", 2, 5, 2, 1);
    }

    private void leftWith() {
        // Both like the thing 0 best, with which 1 has left.
        groupsOf("M20909/1!0!", 1, 1, 1, 1);
        groupsOf("M20990/1!0!", 1, 3, 1, 3);
    }

    private void muchBetter() {
        check.sentence("GROUPS", "It could do much better if they can be shared so that each of them likes it better");
        groupsOf("M25445", 3, 1, 3, 1);
        groupsOf("M25455", 3, 1, NONE, 0);
        groupsOf("M3" + "545" + "455" + "555", 3, 2, 3, 1);
        groupsOf(CIRCLE, 127, 1, 127, 1);
        groupsOf(ALIKE, NONE, 0, NONE, 0);
        // All of 0, 1 and 2 by turns, or two of them: each likes any other thing better.
        groupsOf("M3" + "500" + "050" + "005", 3, 4, 3, 4);
    }

    private void fewestTraders() {
        check.sentence("20", "Returns the group, bit i set for the trader i, with the fewest traders");
        groupsOf(TWO_RINGS, 96, 44, 96, 3);
        // {2} has fewer traders than {0, 1}, but a greater number.
        groupsOf("M3" + "509" + "095" + "990" + "/021", 4, 4, 4, 3);
        groupsOf("M4" + "5099" + "0599" + "9909" + "9990" + "/0132", 4, 13, 4, 7);
        // 2 and 3 have already what they like best.
        groupsOf("M4" + "5099" + "0599" + "9950" + "9905" + "/0132", 3, 2, 3, 1);
        check.same("all seven", Markets.of(CIRCLE).group(false), 127);
        check.same("the last one of seven", Markets.of(ALIKE.substring(0, 50) + "4" + "/1234560").group(true), 64);
    }

    private void smallestNumber() {
        check.sentence("20", "among several the smallest number");
        // {0, 3} is 9, {1, 2} is 6.
        groupsOf("M4" + "5990" + "9509" + "9059" + "0995", 6, 7, 6, 3);
        groupsOf(ENVY, 3, 120, 3, 120);
        groupsOf(HOMESICK, 1, 127, 1, 127);
        groupsOf("M3" + "999" + "909" + "990" + "/021", 2, 6, 2, 3);
    }

    private void noGroup() {
        check.sentence("20", "NONE if there is none");
        groupsOf("M19", NONE, 0, NONE, 0);
        groupsOf(ALIKE, NONE, 0, NONE, 0);
        groupsOf(CIRCLE + "/1234560", NONE, 0, NONE, 0);
        check.same("without traders", new TradeRings().group(false), NONE);
        check.same("without traders", new TradeRings().group(true), NONE);
    }

    private void kindsOfGroups() {
        check.sentence("20", "Finds a group that could do better");
        groupsOf("M25445", 3, 1, 3, 1);
        check.sentence("20", "- much: whether it is to be one that could do much better");
        check.same("better", Markets.of("M3" + "545" + "559" + "455").group(false), 3);
        check.same("much better", Markets.of("M3" + "545" + "459" + "455").group(true), 3);
        check.same("not much better", Markets.of("M3" + "545" + "559" + "955").group(true), NONE);
        check.sentence("21", "Counts groups that could do better");
        check.same("none", Markets.of("M25555").groups(false), 0);
        check.same("one", Markets.of("M25455").groups(false), 1);
        check.sentence("21", "- much: whether those are counted that could do much better");
        check.same("not much", Markets.of("M25455").groups(true), 0);
        check.same("much", Markets.of("M25445").groups(true), 1);
    }

    private void countOfAllGroups() {
        check.sentence("21", "Returns how many there are");
        check.same("without traders", new TradeRings().groups(false), 0);
        check.same("without traders", new TradeRings().groups(true), 0);
        check.same("all that there are", Markets.of(HOMESICK).groups(false), 127);
        check.same("all that there are", Markets.of(HOMESICK).groups(true), 127);
        check.same("all but those of one", Markets.of(ENVY).groups(false), 120);
        check.same("all but those of one", Markets.of(ENVY).groups(true), 120);
        check.same("only all together", Markets.of(CIRCLE).groups(true), 1);
        check.same("one of one", Markets.of("M20955/10").groups(true), 1);
    }

    // ---- promises 22 and 23

    private void leasts(String text, int sum, int... things) {
        TradeRings x = Markets.of(text);
        check.same("least() of " + text, x.least(), sum);
        for (int i = 0; i < things.length; i++) {
            check.same("leastOf(" + i + ") of " + text, x.leastOf(i), things[i]);
        }
    }

    private void leastSum() {
        check.sentence("22", "Returns the smallest sum of the ranks, for present traders, of what they hold, if the "
            + "things that they hold were shared among them in whatever way, one for each");
        leasts("M10", 0, 0);
        leasts("M19", 9, 0);
        leasts("M7" + "0".repeat(49), 0, 0, 1, 2, 3, 4, 5, 6);
        leasts("M7" + "9".repeat(49), 63, 0, 1, 2, 3, 4, 5, 6);
        leasts(CIRCLE, 0, 1, 2, 3, 4, 5, 6, 0);
        leasts(CIRCLE + "/6543210", 0, 1, 2, 3, 4, 5, 6, 0);
        // In whatever way: 0 likes it less then.
        leasts("M20109", 1, 1, 0);
        leasts("M20199", 9, 0, 1);
    }

    private void leastOfPresent() {
        leasts("M3" + "000" + "987" + "654" + "/2!01", 14, NONE, 0, 1);
        leasts("M29009/0!1", 9, NONE, 1);
        leasts("M29009/1!0", 0, NONE, 0);
        leasts(CIRCLE + "/0!123456", 9, NONE, 2, 3, 4, 5, 6, 1);
    }

    private void leastOfNobody() {
        check.sentence("22", "0 if nobody is present");
        check.same("without traders", new TradeRings().least(), 0);
        leasts("M19/0!", 0, NONE);
        leasts("M7" + "9".repeat(49) + ALL_LEFT, 0, NONE, NONE, NONE, NONE, NONE, NONE, NONE);
    }

    private void leastOf() {
        check.sentence("23", "Returns the thing of this trader in the way to share with the smallest sum");
        leasts("M29009", 0, 1, 0);
        leasts("M29009/10", 0, 1, 0);
        leasts("M3" + "012" + "090" + "099", 1, 1, 2, 0);
    }

    private void leastOfAlike() {
        check.sentence("23", "among several the one in which the lowest trader who does not get the same thing in "
            + "both gets the thing with the smaller number");
        leasts("M25555", 10, 0, 1);
        leasts("M25555/10", 10, 0, 1);
        leasts("M3" + "012" + "021" + "013", 2, 0, 2, 1);
        leasts(ALIKE + "/6543210", 35, 0, 1, 2, 3, 4, 5, 6);
        leasts(ALIKE + "/65!43210", 30, 0, NONE, 1, 2, 3, 4, 6);
        // 0 gets the same in both; 1 decides between 1 and 2.
        leasts("M3" + "990" + "115" + "115", 2, 2, 0, 1);
        // 0 gets the smaller one, though that is the greater one for 1 and 2.
        leasts("M3" + "191" + "111" + "911", 3, 0, 1, 2);
        leasts("M3" + "911" + "199" + "911", 3, 1, 0, 2);
        leasts("M4" + "1199" + "1199" + "9911" + "9911" + "/3210", 4, 0, 1, 2, 3);
    }

    private void leastOfThoseWhoLeft() {
        check.sentence("23", "NONE if it has left");
        leasts("M15/0!", 0, NONE);
        leasts(ALIKE + "/0123456!", 30, 0, 1, 2, 3, 4, 5, NONE);
        leasts(ALIKE + "/0!123456", 30, NONE, 1, 2, 3, 4, 5, 6);
        leasts(ALIKE + "/6!123450", 30, NONE, 0, 1, 2, 3, 4, 5);
    }

    private void leastOfNoTrader() {
        check.sentence("23", "Throws IndexOutOfBoundsException if there is no such trader");
        for (int no : NOT_OF_THREE) {
            whole.noIndex("leastOf(" + no + ")", Whole::rich, x -> x.leastOf(no));
        }
        check.noIndex("leastOf(7) of seven", () -> Markets.of(ALIKE).leastOf(7));
        check.same("leastOf(6) of seven", Markets.of(ALIKE).leastOf(6), 6);
    }

    // ---- promise 24

    private void ways(String text, int due) {
        check.same("betterWays() of " + text, Markets.of(text).betterWays(), due);
    }

    private void betterWays() {
        check.sentence("24", "Returns in how many ways the things that present traders hold could be shared among "
            + "them, one for each, so that none of them likes what it gets less than what it holds, and somebody "
            + "likes it better");
        check.same("without traders", new TradeRings().betterWays(), 0);
        ways("M10", 0);
        ways("M25445", 1);
        ways("M25455", 1);
        ways("M25545", 1);
        ways("M25555", 0);
        ways("M25465", 0);
        ways("M25645", 0);
        ways(ALIKE, 0);
        ways(CIRCLE, 1);
        ways(CIRCLE + "/1234560", 0);
    }

    private void betterWaysOfPresent() {
        ways("M29009/0!1", 0);
        ways("M29009/0!1!", 0);
        ways("M20990/10", 1);
        ways("M29009/10", 0);
        ways("M3" + "900" + "090" + "009", 5);
        ways("M3" + "900" + "090" + "009" + "/012!", 1);
        ways("M3" + "900" + "909" + "009" + "/0!12", 0);
        ways(CIRCLE + "/0!123456", 0);
        ways(ENVY + ALL_LEFT, 0);
    }

    private void mostBetterWays() {
        // All ways but the one that is.
        ways(ENVY, 5039);
        ways(ENVY.substring(0, 51) + "/0123456!", 719);
        // All ways but those in which 0 keeps its thing.
        ways("M7" + "1000000" + "1".repeat(42), 5040 - 720);
    }

    // ---- promise 25

    private void harmsOf(String text, int... due) {
        TradeRings x = Markets.of(text);
        for (int i = 0; i < due.length; i++) {
            check.same("harms(" + i + ") of " + text, x.harms(i), due[i]);
        }
    }

    private void harms() {
        check.sentence("25", "Returns the other present traders, as bits, who would like what they get by the trading "
            + "less if this trader had left before (with the thing that it holds)");
        harmsOf("M15", 0);
        harmsOf("M29009", 2, 1);
        harmsOf("M25445", 2, 1);
        harmsOf("M25545", 0, 0);
        // Without 0, 1 gets another thing that it likes alike, and 2 gains.
        harmsOf("M3" + "905" + "191" + "905", 0, 1, 0);
        harmsOf("M25454", 0, 0);
        harmsOf("M29009/10", 0, 0);
        harmsOf("M20990/10", 2, 1);
        harmsOf(CIRCLE, 126, 125, 123, 119, 111, 95, 63);
        harmsOf(CIRCLE + "/0!123456", 0, 0, 0, 0, 0, 0, 0);
    }

    private void harmsOfThoseWhoLeft() {
        check.sentence("25", "0 if it has left");
        harmsOf("M15/0!", 0);
        harmsOf("M29009/0!1", 0, 0);
        harmsOf("M29009/01!", 0, 0);
        harmsOf("M3" + "909" + "099" + "909" + "/012!", 2, 1, 0);
        harmsOf(CIRCLE + ALL_LEFT, 0, 0, 0, 0, 0, 0, 0);
    }

    private void harmsOfNoTrader() {
        check.sentence("25", "Throws IndexOutOfBoundsException if there is no such trader");
        for (int no : NOT_OF_THREE) {
            whole.noIndex("harms(" + no + ")", Whole::rich, x -> x.harms(no));
        }
        check.noIndex("harms(7) of seven", () -> Markets.of(CIRCLE).harms(7));
    }

    // ---- promise 26

    private void fewestOf(String text, int i, int... due) {
        TradeRings x = Markets.of(text);
        for (int t = 0; t < due.length; t++) {
            check.same("fewest(" + i + ", " + t + ") of " + text, x.fewest(i, t), due[t]);
        }
    }

    private void fewest() {
        check.sentence("26", "Returns the smallest number of exchanges, one after the other, each of two traders who "
            + "can exchange then (see whyNot), behind which the trader holds the thing");
        fewestOf("M29009", 0, 0, 1);
        fewestOf("M25455", 0, 0, 1);
        fewestOf(CHAIN, 0, 0, 1, 2);
        fewestOf(CHAIN, 1, 1, 0, NONE);
        fewestOf(LONG_CHAIN, 0, 0, 1, 2, 3, 4, 5, 6);
        // The same by one exchange, where the last one takes it.
        fewestOf("M7" + "9876543" + "9".repeat(42), 0, 0, 1, 1, 1, 1, 1, 1);
        // 1 must exchange with 2 first, by which it comes to what 0 wants.
        fewestOf("M3" + "590" + "555" + "905", 0, 0, NONE, 2);
    }

    private void fewestOfThingHeld() {
        check.sentence("26", "0 if it is present and holds it now");
        fewestOf("M15", 0, 0);
        fewestOf("M29009/10", 0, NONE, 0);
        fewestOf("M29009/10", 1, 0, NONE);
        fewestOf(ALIKE + "/6543210", 6, 0, NONE, NONE, NONE, NONE, NONE, NONE);
        fewestOf("M29009/0!1", 1, NONE, 0);
    }

    private void fewestThatAreNone() {
        check.sentence("26", "NONE if there are none, or if the trader has left");
        fewestOf("M25555", 0, 0, NONE);
        fewestOf("M20990", 1, NONE, 0);
        // What it left with, too.
        fewestOf("M15/0!", 0, NONE);
        fewestOf("M29009/0!1", 0, NONE, NONE);
        fewestOf("M29009/1!0", 0, NONE, NONE);
        // Nobody else gets the thing of one who left, nor exchanges by it.
        fewestOf("M29009/0!1", 1, NONE, 0);
        fewestOf(CHAIN + "/01!2", 0, 0, NONE, NONE);
        fewestOf(CHAIN + "/012!", 0, 0, 1, NONE);
        fewestOf(LONG_CHAIN + "/0123!456", 0, 0, 1, 2, NONE, NONE, NONE, NONE);
    }

    private void fewestOfNobody() {
        check.sentence("26", "Throws IndexOutOfBoundsException if there is no such trader or thing");
        for (int no : NOT_OF_THREE) {
            whole.noIndex("fewest(" + no + ", 0)", Whole::rich, x -> x.fewest(no, 0));
            whole.noIndex("fewest(0, " + no + ")", Whole::rich, x -> x.fewest(0, no));
            whole.noIndex("fewest(2, " + no + ") of one who left", Whole::rich, x -> x.fewest(2, no));
            whole.noIndex("fewest(" + no + ", " + no + ")", Whole::rich, x -> x.fewest(no, no));
        }
        check.noIndex("fewest(7, 6) of seven", () -> Markets.of(ALIKE).fewest(7, 6));
        check.noIndex("fewest(6, 7) of seven", () -> Markets.of(ALIKE).fewest(6, 7));
    }

    // ---- what was found before does not count any more

    private void askedAgain() {
        check.sentence("THE MARKET", "A trader ranks each thing from 0 to 9: the smaller the rank, the better it is "
            + "liked; things with the same rank are liked alike");
        TradeRings x = Markets.of("M25115");
        answers("both want to", x, 3, 1, 2, 1, 1, 2, 1);
        x.setRank(0, 1, 9);
        answers("0 does not", x, NONE, 0, 10, 0, 0, 0, NONE);
        x.undo();
        answers("both want to again", x, 3, 1, 2, 1, 1, 2, 1);
        x.exchange(0, 1);
        answers("they have", x, NONE, 0, 2, 1, 0, 0, 0);
        x.goHome();
        answers("home again", x, 3, 1, 2, 1, 1, 2, 1);
        x.leave(1);
        answers("1 has left", x, 3, 1, 5, 0, 0, 0, NONE);
        x.addTrader();
        answers("2 has come", x, 3, 4, 10, 2, 1, 0, NONE);
    }

    /** group, groups, least, leastOf(0), betterWays, harms(0), fewest(0, 1). */
    private void answers(String what, TradeRings x, int... due) {
        check.same("group: " + what, x.group(false), due[0]);
        check.same("groups: " + what, x.groups(false), due[1]);
        check.same("least: " + what, x.least(), due[2]);
        check.same("leastOf: " + what, x.leastOf(0), due[3]);
        check.same("betterWays: " + what, x.betterWays(), due[4]);
        check.same("harms: " + what, x.harms(0), due[5]);
        check.same("fewest: " + what, x.fewest(0, 1), due[6]);
    }

    private void fewestAskedAgain() {
        check.sentence("26", "NONE if there are none, or if the trader has left");
        TradeRings x = Markets.of(LONG_CHAIN);
        check.same("all the way", x.fewest(0, 6), 6);
        x.setRank(1, 0, 9);
        for (int t = 1; t < 7; t++) {
            check.same("no way to " + t + " any more", x.fewest(0, t), NONE);
        }
        x.undo();
        check.same("all the way again", x.fewest(0, 6), 6);
        x.leave(4);
        check.same("half of the way", x.fewest(0, 3), 3);
        check.same("not further", x.fewest(0, 5), NONE);
    }
}
