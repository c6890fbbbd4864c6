import java.util.Random;

/** All promises: long runs of calls with fixed seeds, each answer compared with the reference. */
public final class RandomRunsTest {
    private static final int RUNS = 700;
    private static final Check CHECK = new Check("RandomRunsTest");

    private final Random random;
    private final TradeRings x = new TradeRings();
    private final Reference y = new Reference();
    private final StringBuilder calls = new StringBuilder();
    private final int seed;
    private int made;
    private final int highestRank;
    private boolean isRight = true;

    private RandomRunsTest(int seed) {
        this.seed = seed;
        random = new Random(seed);
        highestRank = 1 + random.nextInt(9);
    }

    public static void main(String[] args) {
        for (int seed = 0; seed < RUNS; seed++) {
            new RandomRunsTest(seed).run();
        }
        CHECK.end();
    }

    private void run() {
        int calls = 60 + random.nextInt(452);
        if (random.nextInt(3) == 0) {
            for (int n = random.nextInt(8); n > 0; n--) {
                same("addTrader", x::addTrader, y::addTrader);
            }
        } else {
            load();
        }
        while (isRight && made < calls) {
            any();
        }
    }

    private void same(String call, Check.Call got, Check.Call due) {
        made++;
        if (!isRight || made > 512) {
            return;
        }
        calls.append(call).append("; ");
        String answer = Check.answerOf(got);
        String right = Check.answerOf(due);
        isRight = answer.equals(right);
        CHECK.same("seed " + seed + (isRight ? "" : ": " + calls) + call, answer, right);
    }

    private void append(char c) {
        same("append " + (int) c, () -> x.append(c), () -> y.append(c));
    }

    /** A text that is a market, or nearly one. */
    private void load() {
        int n = 1 + random.nextInt(7);
        StringBuilder text = new StringBuilder("M").append(n);
        for (int k = 0; k < n * n; k++) {
            text.append(random.nextInt(highestRank + 1));
        }
        if (random.nextBoolean()) {
            text.append('/');
            StringBuilder things = new StringBuilder("0123456".substring(0, n));
            while (things.length() > 0) {
                int k = random.nextInt(things.length());
                text.append(things.charAt(k)).append(random.nextInt(6) == 0 ? "!" : "");
                things.deleteCharAt(k);
            }
        }
        if (random.nextInt(4) == 0) {
            spoil(text);
        }
        same("clearText", x::clearText, y::clearText);
        for (int k = 0; k < text.length(); k++) {
            append(text.charAt(k));
        }
        same("errorPosition", x::errorPosition, y::errorPosition);
        same("load", x::load, y::load);
    }

    private void spoil(StringBuilder text) {
        int k = random.nextInt(text.length());
        char c = "0127!/M $".charAt(random.nextInt(9));
        switch (random.nextInt(4)) {
            case 0:
                text.setLength(k);
                break;
            case 1:
                text.insert(k, c);
                break;
            case 2:
                text.setCharAt(text.length() - 1 - k % Math.min(15, text.length()), c);
                break;
            default:
                text.append(c);
                break;
        }
    }

    /** Mostly a number that is in range. */
    private int number(int above) {
        return random.nextInt(12) == 0 ? random.nextInt(12) - 2 : random.nextInt(above);
    }

    private int trader() {
        return number(Math.max(1, y.about(0)));
    }

    private void any() {
        switch (random.nextInt(10)) {
            case 0:
            case 1:
                act();
                break;
            case 2:
                actRarely();
                break;
            case 3:
                if (random.nextInt(6) == 0) {
                    textCall();
                }
                break;
            case 4:
            case 5:
                wouldBe();
                break;
            case 6:
                script();
                break;
            default:
                look();
                break;
        }
    }

    private void look() {
        int i = trader();
        int j = trader();
        int k = number(4);
        int what = number(8);
        switch (random.nextInt(6)) {
            case 0:
                same("about " + what, () -> x.about(what), () -> y.about(what));
                break;
            case 1:
                same("trader " + i + " " + what, () -> x.trader(i, what), () -> y.trader(i, what));
                break;
            case 2:
                same("rank " + i + " " + j, () -> x.rank(i, j), () -> y.rank(i, j));
                break;
            case 3:
                same("holder " + i, () -> x.holder(i), () -> y.holder(i));
                break;
            case 4:
                same("ring " + k + " " + what % 5, () -> x.ring(k, what % 5), () -> y.ring(k, what % 5));
                break;
            default:
                same("whyNot " + i + " " + j, () -> x.whyNot(i, j), () -> y.whyNot(i, j));
                break;
        }
    }

    private void act() {
        int i = trader();
        int j = trader();
        int k = number(3);
        int r = random.nextInt(20) == 0 ? number(12) : random.nextInt(highestRank + 1);
        switch (random.nextInt(4)) {
            case 0:
                same("exchange " + i + " " + j, () -> x.exchange(i, j), () -> y.exchange(i, j));
                break;
            case 1:
                same("doRing " + k, () -> x.doRing(k), () -> y.doRing(k));
                break;
            case 2:
                same("undo", x::undo, y::undo);
                break;
            default:
                same("setRank " + i + " " + j + " " + r, () -> x.setRank(i, j, r), () -> y.setRank(i, j, r));
                break;
        }
    }

    private void actRarely() {
        int i = trader();
        int slot = number(2);
        switch (random.nextInt(7)) {
            case 0:
                same("addTrader", x::addTrader, y::addTrader);
                break;
            case 1:
                same("leave " + i, () -> x.leave(i), () -> y.leave(i));
                break;
            case 2:
            case 3:
                same("goHome", x::goHome, y::goHome);
                break;
            case 4:
                same("trade", x::trade, y::trade);
                break;
            case 5:
                same("save " + slot, () -> x.save(slot), () -> y.save(slot));
                break;
            default:
                same("restore " + slot, () -> x.restore(slot), () -> y.restore(slot));
                break;
        }
    }

    private void textCall() {
        int c = random.nextInt(300) - 20;
        switch (random.nextInt(4)) {
            case 0:
                same("append " + c, () -> x.append(c), () -> y.append(c));
                break;
            case 1:
                same("load", x::load, y::load);
                break;
            default:
                if (made < 300) {
                    load();
                }
                break;
        }
    }

    private void wouldBe() {
        int i = trader();
        int t = trader();
        boolean much = random.nextBoolean();
        int choice = random.nextInt(14);
        // The reference tries every sharing, which takes long with seven traders.
        if (choice < 2 && y.about(0) == 7 && random.nextInt(8) != 0) {
            choice = 13;
        }
        switch (choice) {
            case 0:
                same("group " + much, () -> x.group(much), () -> y.group(much));
                break;
            case 1:
                same("groups " + much, () -> x.groups(much), () -> y.groups(much));
                break;
            case 2:
                same("least", x::least, y::least);
                break;
            case 3:
            case 4:
                same("leastOf " + i, () -> x.leastOf(i), () -> y.leastOf(i));
                break;
            case 5:
                same("betterWays", x::betterWays, y::betterWays);
                break;
            case 6:
            case 7:
                same("harms " + i, () -> x.harms(i), () -> y.harms(i));
                break;
            default:
                same("fewest " + i + " " + t, () -> x.fewest(i, t), () -> y.fewest(i, t));
                break;
        }
    }

    private long command() {
        int i = random.nextInt(Math.max(1, y.about(0)));
        int j = random.nextInt(Math.max(1, y.about(0)));
        switch (random.nextInt(12)) {
            case 0:
                return random.nextInt(10000);
            case 1:
            case 2:
                return 1000 + 100 * i + 10 * j;
            case 3:
                return 2000 + 100 * random.nextInt(3);
            case 4:
                return 3000;
            case 5:
                return 4000 + 100 * i;
            case 6:
                return 5000 + 100 * i + 10 * j + random.nextInt(10);
            case 7:
                return 6000;
            case 8:
                return 7000 + 100 * i + 10 * j;
            case 9:
                return 8000 + Math.min(99, Math.max(0, y.about(3) + random.nextInt(9) - 4));
            case 10:
                return y.about(0) == 7 && random.nextInt(8) != 0 ? 3000 : 9000 + random.nextInt(30);
            default:
                return 1000 * random.nextInt(10) + 100 * i + 10 * random.nextInt(8);
        }
    }

    private void script() {
        if (random.nextInt(3) == 0) {
            long start = random.nextLong();
            int m = random.nextInt(10) == 0 ? random.nextInt(110) - 5 : 1 + random.nextInt(99);
            same("simulate " + start + " " + m, () -> x.simulate(start, m), () -> y.simulate(start, m));
            return;
        }
        int n = random.nextInt(20) == 0 ? random.nextInt(8) - 1 : 1 + random.nextInt(4);
        long commands = 0;
        for (int k = 0; k < n; k++) {
            commands = commands * 10000 + command();
        }
        if (random.nextInt(20) == 0) {
            commands = random.nextLong() >> random.nextInt(40);
        }
        long script = commands;
        same("runScript " + n + " " + script, () -> x.runScript(n, script), () -> y.runScript(n, script));
    }
}
