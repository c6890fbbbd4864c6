/** The boundaries of the promises 1 to 5 and of the section TEXT, sentence by sentence. */
final class TextBoundaries {
    private static final int NONE = TradeRings.NONE;
    private static final String NINES = "9".repeat(49);
    /** Each trader holds another thing, and all but the last one have left. */
    private static final String THREE = "M3" + "012345678" + "/2!0!1";

    private final Check check;
    private final Whole whole;

    TextBoundaries(Check check) {
        this.check = check;
        whole = new Whole(check);
    }

    void all() {
        newObject();
        callsWithoutTraders();
        refusalsWithoutTraders();
        appendPutsBehind();
        appendOfAnyCode();
        appendOfNoCode();
        appendLength();
        appendToFullText();
        bufferLength();
        clearText();
        clearTextLength();
        errorPosition();
        errorPositionOfMarket();
        letterAndNumber();
        ranks();
        ranksInOrder();
        holdings();
        holdingsInOrder();
        noTwoTheSame();
        marksOfThoseWhoLeft();
        noBlanks();
        leftToRight();
        everyCharacterAtEveryPlace();
        textThatEndsTooSoon();
        load();
        loadForgets();
        loadKeepsText();
        loadAnswers();
        loadOfNoMarket();
    }

    private static TradeRings withText(String text) {
        TradeRings x = new TradeRings();
        Markets.write(x, text);
        return x;
    }

    private static TradeRings full() {
        TradeRings x = Whole.rich();
        for (int length = x.append('y'); length < 70; length++) {
            x.append('y');
        }
        return x;
    }

    private void position(String text, int due) {
        check.same("errorPosition of " + text, withText(text).errorPosition(), due);
    }

    // ---- promise 1

    private void newObject() {
        check.sentence("1", "Creates a market without traders");
        TradeRings x = new TradeRings();
        for (int what = 0; what <= 7; what++) {
            check.same("about(" + what + ")", x.about(what), 0);
        }
        check.same("clearText()", x.clearText(), 0);
        check.same("errorPosition()", x.errorPosition(), 0);
        check.noState("load()", x::load);
        check.noState("undo()", x::undo);
        check.noState("restore(0)", () -> x.restore(0));
        check.noState("restore(1)", () -> x.restore(1));
        check.same("the first trader", x.addTrader(), 0);
    }

    private void callsWithoutTraders() {
        TradeRings x = new TradeRings();
        check.same("group(false)", x.group(false), NONE);
        check.same("group(true)", x.group(true), NONE);
        check.same("groups(false)", x.groups(false), 0);
        check.same("groups(true)", x.groups(true), 0);
        check.same("least()", x.least(), 0);
        check.same("betterWays()", x.betterWays(), 0);
        check.same("simulate(0, 1)", x.simulate(0, 1), 0);
        check.same("simulate(-1, 99)", x.simulate(-1, 99), 0);
        long[] fails = {1000, 2000, 4000, 5000, 7000};
        for (long command : fails) {
            check.same("the command " + command, x.runScript(1, command), 0);
        }
        long[] succeeds = {3000, 6000, 8000, 9000, 9010};
        for (long command : succeeds) {
            check.same("the command " + command, x.runScript(1, command), NONE);
        }
        check.same("trade()", x.trade(), 0);
        check.same("goHome()", x.goHome(), 0);
        check.same("save(0)", x.save(0), 0);
        check.same("undo() of goHome", x.undo(), 1);
        check.same("undo() of trade", x.undo(), 0);
        check.same("restore(0)", x.restore(0), 0);
    }

    private void refusalsWithoutTraders() {
        Whole.Maker maker = TradeRings::new;
        whole.noIndex("trader(0, 0)", maker, x -> x.trader(0, 0));
        whole.noIndex("rank(0, 0)", maker, x -> x.rank(0, 0));
        whole.noIndex("holder(0)", maker, x -> x.holder(0));
        whole.noIndex("ring(0, 0)", maker, x -> x.ring(0, 0));
        whole.noIndex("whyNot(0, 0)", maker, x -> x.whyNot(0, 0));
        whole.noIndex("setRank(0, 0, 0)", maker, x -> x.setRank(0, 0, 0));
        whole.noIndex("exchange(0, 0)", maker, x -> x.exchange(0, 0));
        whole.noIndex("doRing(0)", maker, x -> x.doRing(0));
        whole.noIndex("leave(0)", maker, x -> x.leave(0));
        whole.noIndex("leastOf(0)", maker, x -> x.leastOf(0));
        whole.noIndex("harms(0)", maker, x -> x.harms(0));
        whole.noIndex("fewest(0, 0)", maker, x -> x.fewest(0, 0));
    }

    // ---- promise 2

    private void appendPutsBehind() {
        check.sentence("2", "Appends a character to the text buffer");
        TradeRings x = new TradeRings();
        int[] positions = {1, 2, NONE, 4, NONE, NONE, 6, 6};
        for (int k = 0; k < 8; k++) {
            x.append("M15/0!!0".charAt(k));
            check.same("errorPosition behind " + (k + 1) + " characters", x.errorPosition(), positions[k]);
        }
        TradeRings rich = Whole.rich();
        rich.append('M');
        check.same("append changes only the text", Whole.state(rich), Whole.state(Whole.rich()));
    }

    private void appendOfAnyCode() {
        check.sentence("2", "- c: character code, 0 to 255");
        for (int c = 0; c <= 255; c++) {
            check.same("append(" + c + ")", withText("M15").append(c), 4);
        }
        // A character of the code 0 or 255 is one, and not the end of the text.
        position("M15" + (char) 0, 3);
        position("M15" + (char) 255, 3);
        position("" + (char) 0, 0);
    }

    private void appendOfNoCode() {
        check.sentence("2", "Throws IllegalArgumentException if c is out of range");
        int[] codes = {-1, 256, -256, 77 + 256, 77 - 256, 77 + 65536, Integer.MIN_VALUE, Integer.MAX_VALUE};
        for (int c : codes) {
            whole.noArgument("append(" + c + ")", Whole::rich, x -> x.append(c));
            whole.noArgument("append(" + c + ") to an empty text", TradeRings::new, x -> x.append(c));
        }
    }

    private void appendLength() {
        check.sentence("2", "Returns the new length of the text");
        TradeRings x = new TradeRings();
        for (int length = 1; length <= 70; length++) {
            check.same("append(0)", x.append(0), length);
        }
        x.clearText();
        check.same("append to the cleared text", x.append(0), 1);
    }

    private void appendToFullText() {
        check.sentence("2", "Throws IllegalStateException if the text already has 70 characters");
        int[] codes = {0, 77, 255};
        for (int c : codes) {
            whole.noState("append(" + c + ")", TextBoundaries::full, x -> x.append(c));
        }
        check.same("the length then", full().clearText(), 70);
        TradeRings x = full();
        x.clearText();
        check.same("the cleared text is not full", x.append(0), 1);
    }

    private void bufferLength() {
        check.sentence("TEXT", "The object has a text buffer of at most 70 characters");
        TradeRings x = new TradeRings();
        for (int k = 0; k < 69; k++) {
            x.append('M');
        }
        check.same("the seventieth", x.append('M'), 70);
        check.noState("the seventy-first", () -> x.append('M'));
        check.same("clearText", x.clearText(), 70);
        for (int k = 0; k < 70; k++) {
            x.append('M');
        }
        check.noState("the seventy-first again", () -> x.append('M'));
    }

    // ---- promise 3

    private void clearText() {
        check.sentence("3", "Empties the text buffer");
        TradeRings x = withText("M15");
        x.clearText();
        check.same("errorPosition then", x.errorPosition(), 0);
        check.noState("load then", x::load);
        Markets.write(x, "M1");
        check.same("nothing of the old text is behind the new one", x.errorPosition(), 2);
        TradeRings rich = Whole.rich();
        rich.clearText();
        check.same("clearText changes only the text", Whole.state(rich), Whole.state(Whole.rich()));
    }

    private void clearTextLength() {
        check.sentence("3", "Returns the previous length of the text");
        check.same("of an empty text", new TradeRings().clearText(), 0);
        check.same("of one character", withText("M").clearText(), 1);
        check.same("of 69", withText("M".repeat(69)).clearText(), 69);
        TradeRings x = withText("M".repeat(70));
        check.same("of 70", x.clearText(), 70);
        check.same("once more", x.clearText(), 0);
    }

    // ---- promise 4 and TEXT

    private void errorPosition() {
        check.sentence("4", "Checks the text");
        whole.unchanged("errorPosition of no market", Whole::rich, x -> x.errorPosition());
        whole.unchanged("errorPosition of a market", Whole::richWithMarket, x -> x.errorPosition());
        whole.unchanged("errorPosition of a full text", TextBoundaries::full, x -> x.errorPosition());
        check.same("it is the text's, not the market's", Whole.rich().errorPosition(), 11);
    }

    private void errorPositionOfMarket() {
        check.sentence("4", "Returns the error position of the text; NONE if it is a market");
        position("", 0);
        position("M15", NONE);
        position("M15/0", NONE);
        position("M15/0!", NONE);
        position("M7" + NINES + "/6!5!4!3!2!1!0!", NONE);
        position("M7" + NINES + "/6!5!4!3!2!1!0!" + "0000", 66);
        position("x".repeat(70), 0);
    }

    private void letterAndNumber() {
        check.sentence("TEXT", "A market is the letter M, a digit from 1 to 7 for the number of traders");
        for (int n = 1; n <= 7; n++) {
            position("M" + n + "0".repeat(n * n), NONE);
            check.same("traders of M" + n, Markets.of("M" + n + "0".repeat(n * n)).about(0), n);
        }
        position("M0", 1);
        position("M8" + "0".repeat(64), 1);
        position("M9", 1);
        position("L1", 0);
        position("N15", 0);
        position("m15", 0);
        position("MM15", 1);
    }

    private void ranks() {
        check.sentence("TEXT", "and for each trader, ascending, a digit for its rank of each thing, ascending");
        for (int n = 1; n <= 7; n++) {
            int count = n * n;
            position("M" + n + "9".repeat(count), NONE);
            position("M" + n + "9".repeat(count - 1), 1 + count);
            position("M" + n + "9".repeat(count - 1) + "/", 1 + count);
            position("M" + n + "9".repeat(count) + "9", 2 + count);
            position("M" + n + ":" + "9".repeat(count - 1), 2);
            position("M" + n + "9".repeat(count - 1) + ":", 1 + count);
        }
    }

    private void ranksInOrder() {
        for (int n = 1; n <= 7; n++) {
            StringBuilder text = new StringBuilder("M").append(n);
            for (int k = 0; k < n * n; k++) {
                text.append(k % 10);
            }
            TradeRings x = Markets.of(text.toString());
            for (int k = 0; k < n * n; k++) {
                check.same("rank(" + k / n + ", " + k % n + ") of " + text, x.rank(k / n, k % n), k % 10);
            }
        }
    }

    private void holdings() {
        check.sentence("TEXT", "Then the text ends (each holds its own thing, all are present), or there are a / "
            + "and for each trader, ascending, a digit for the thing that it holds (no two the same) "
            + "and perhaps a ! (it has left with this thing)");
        for (int n = 1; n <= 7; n++) {
            String ranks = "M" + n + "9".repeat(n * n);
            String things = "0123456".substring(0, n);
            int behind = 3 + n * n;
            position(ranks + "/" + things, NONE);
            position(ranks + "/" + things + things.charAt(0), behind + n);
            position(ranks + "/" + things + "7", behind + n);
            position(ranks + "/" + n, behind);
            position(ranks + "/" + things.substring(0, n - 1) + n, behind + n - 1);
            position(ranks + "/" + things.substring(0, n - 1), behind + n - 1);
            position(ranks + "//" + things, behind);
            position(ranks + "!" + things, behind - 1);
        }
    }

    private void holdingsInOrder() {
        TradeRings home = Markets.of("M3" + "012345678");
        TradeRings away = Markets.of(THREE);
        int[] held = {2, 0, 1};
        for (int i = 0; i < 3; i++) {
            check.same("at first the own thing", home.trader(i, 0), i);
            check.same("at first present", home.trader(i, 2), 1);
            check.same("the thing of " + i, away.trader(i, 0), held[i]);
            check.same("present is " + i, away.trader(i, 2), i == 2 ? 1 : 0);
        }
    }

    private void noTwoTheSame() {
        for (int first = 0; first < 7; first++) {
            for (int second = first + 1; second < 7; second++) {
                StringBuilder things = new StringBuilder("6543210");
                things.setCharAt(second, things.charAt(first));
                position("M7" + NINES + "/" + things, 52 + second);
                String left = things.toString().replaceAll(".", "$0!");
                position("M7" + NINES + "/" + left, 52 + 2 * second);
            }
        }
    }

    private void marksOfThoseWhoLeft() {
        position("M15/!", 4);
        position("M15/!0", 4);
        position("M15/0!!", 6);
        position("M20123/1!!0", 9);
        position("M20123/10!!", 10);
        position("M20123/!10", 7);
        position("M20123/1!0!", NONE);
        position("M20123/10!", NONE);
        position("M20123/1!0", NONE);
        position("M20123!", 6);
        position("M!", 1);
        position("M2!", 2);
    }

    private void noBlanks() {
        check.sentence("TEXT", "There are no blanks");
        for (int k = 0; k <= THREE.length(); k++) {
            position(THREE.substring(0, k) + " " + THREE.substring(k), k);
            position(THREE.substring(0, k) + "\t" + THREE.substring(k), k);
            position(THREE.substring(0, k) + (char) 160 + THREE.substring(k), k);
        }
    }

    private void leftToRight() {
        check.sentence("TEXT", "The text is read from left to right");
        position("m9x", 0);
        position("M9x/", 1);
        position("M1x/", 2);
        position("M2012x/11", 5);
        position("M20x2x/11", 3);
        position("M20123/112", 8);
        position("M20123/1!1!", 9);
        position("51M", 0);
    }

    /** Behind this beginning exactly these characters are allowed. */
    private void allowed(String start, String characters, String complete) {
        for (int c = 0; c <= 255; c++) {
            String text = start + (char) c;
            int due = characters.indexOf((char) c) < 0 ? start.length()
                : complete.indexOf((char) c) < 0 ? text.length() : NONE;
            check.same("errorPosition of " + start + " and " + c, withText(text).errorPosition(), due);
        }
    }

    private void everyCharacterAtEveryPlace() {
        check.sentence("TEXT", "The error position is the index of the first character that these rules do not "
            + "allow at its place");
        String digits = "0123456789";
        allowed("", "M", "");
        allowed("M", "1234567", "");
        allowed("M1", digits, digits);
        allowed("M2", digits, "");
        allowed("M201", digits, "");
        allowed("M2012", digits, digits);
        allowed("M20123", "/", "");
        allowed("M20123/", "01", "");
        allowed("M20123/0", "1!", "1");
        allowed("M20123/1", "0!", "0");
        allowed("M20123/1!", "0", "0");
        allowed("M20123/1!0", "!", "!");
        allowed("M20123/1!0!", "", "");
        allowed("M7" + NINES + "/", "0123456", "");
        allowed("M7" + NINES + "/6!5!4!3!2!1!", "0", "0");
    }

    private void textThatEndsTooSoon() {
        check.sentence("TEXT", "if the text ends too soon, it is the length of the text");
        for (int length = 0; length <= THREE.length(); length++) {
            boolean isMarket = length == 11 || length == THREE.length();
            position(THREE.substring(0, length), isMarket ? NONE : length);
        }
        String seven = "M7" + NINES + "/6!5!4!3!2!1!0!";
        for (int length = 0; length <= seven.length(); length++) {
            boolean isMarket = length == 51 || length >= 65;
            position(seven.substring(0, length), isMarket ? NONE : length);
        }
    }

    // ---- promise 5

    private void load() {
        check.sentence("5", "Replaces everything by the market of the text");
        TradeRings x = Markets.of("M7" + NINES + "/6!5!4!3!2!1!0!");
        x.clearText();
        Markets.write(x, "M20123");
        x.load();
        check.same("seven who left, then two", Markets.picture(x), "M20123/01 text -9");
        check.noIndex("the third one is not there", () -> x.trader(2, 0));
        check.same("added behind two", x.addTrader(), 2);
        check.same("with new ranks, and present", Markets.picture(x), "M3015235556/012 text -9");
        x.clearText();
        Markets.write(x, "M7" + NINES + "/6543210");
        x.load();
        check.same("two, then seven", Markets.picture(x), "M7" + NINES + "/6543210 text -9");
        x.leave(0);
        x.setRank(3, 3, 0);
        x.goHome();
        x.load();
        check.same("the same text again", Markets.picture(x), "M7" + NINES + "/6543210 text -9");
    }

    private void loadForgets() {
        check.sentence("5", "Forgets all remembered states and empties both save slots");
        TradeRings x = Whole.richWithMarket();
        x.save(1);
        x.load();
        check.noState("undo", x::undo);
        check.noState("restore(0)", () -> x.restore(0));
        check.noState("restore(1)", () -> x.restore(1));
        x.goHome();
        check.same("only the action since then is remembered", x.undo(), 0);
        check.noState("undo again", x::undo);
        x.save(1);
        check.noState("the other slot is still empty", () -> x.restore(0));
        check.same("the slot that is saved since then", x.restore(1), 2);
    }

    private void loadKeepsText() {
        check.sentence("5", "Keeps the text");
        TradeRings x = withText(THREE);
        x.load();
        check.same("errorPosition", x.errorPosition(), NONE);
        check.same("load again", x.load(), 1);
        check.same("the length", x.append('!'), THREE.length() + 1);
        check.same("load of the longer text", x.load(), 0);
        TradeRings longest = withText("M7" + NINES + "/6!5!4!3!2!1!0!");
        longest.load();
        check.same("the length of the longest one", longest.clearText(), 66);
    }

    private void loadAnswers() {
        check.sentence("5", "Returns the number of present traders");
        check.same("one", withText("M15").load(), 1);
        check.same("one who left", withText("M15/0!").load(), 0);
        check.same("seven", withText("M7" + NINES).load(), 7);
        check.same("six of seven", withText("M7" + NINES + "/0123456!").load(), 6);
        check.same("none of seven", withText("M7" + NINES + "/6!5!4!3!2!1!0!").load(), 0);
    }

    private void loadOfNoMarket() {
        check.sentence("5", "Throws IllegalStateException if the text is not a market");
        String[] texts = {"", "M", "M1", "m15", "M0", "M8", "M1:", "M155", "M15/", "M15/1", "M15/0!!", "M20123/1",
            "M20123/11", "M20123/1!", "M20123/01 ", "M7" + NINES + "/6!5!4!3!2!1!0!" + "0000"};
        for (String text : texts) {
            Whole.Maker maker = () -> {
                TradeRings x = Whole.rich();
                x.clearText();
                Markets.write(x, text);
                return x;
            };
            whole.noState("load of " + text, maker, TradeRings::load);
        }
    }
}
