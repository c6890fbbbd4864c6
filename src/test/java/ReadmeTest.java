import java.io.IOException;
import java.nio.file.Files;
import java.nio.file.Path;
import java.util.List;
import java.util.regex.Matcher;
import java.util.regex.Pattern;

/** README.md: each call of its two examples answers the number that stands behind it. */
public final class ReadmeTest {
    private static final Check CHECK = new Check("ReadmeTest");
    private static final Pattern LINE = Pattern.compile(" *(?:int \\w+ = )?([xy]\\.\\w+\\([^;]*\\)); +// (-?\\d+).*");

    private final List<String> lines;
    private int next;

    private ReadmeTest(List<String> lines) {
        this.lines = lines;
    }

    public static void main(String[] args) throws IOException {
        ReadmeTest test = new ReadmeTest(Files.readAllLines(Path.of(args[2])));
        test.trading();
        test.text();
        test.noMore();
        CHECK.end();
    }

    /** The next line of the examples is this call, and tells this answer. */
    private void line(String call, long answer) {
        Matcher found = nextLine();
        CHECK.same("the next line", found == null ? "is missing" : found.group(1), call);
        if (found != null) {
            CHECK.same(call, answer, Long.parseLong(found.group(2)));
        }
    }

    private Matcher nextLine() {
        while (next < lines.size()) {
            Matcher found = LINE.matcher(lines.get(next));
            next++;
            if (found.matches()) {
                return found;
            }
        }
        return null;
    }

    private void trading() {
        TradeRings x = new TradeRings();
        int anna = x.addTrader();
        line("x.addTrader()", anna);
        int bert = x.addTrader();
        line("x.addTrader()", bert);
        line("x.setRank(anna, 1, 0)", x.setRank(anna, 1, 0));
        line("x.setRank(bert, 0, 1)", x.setRank(bert, 0, 1));
        line("x.about(4)", x.about(4));
        line("x.ring(0, 0)", x.ring(0, 0));
        line("x.group(true)", x.group(true));
        line("x.whyNot(anna, bert)", x.whyNot(anna, bert));
        line("x.fewest(anna, 1)", x.fewest(anna, 1));
        line("x.runScript(2, 30007010L)", x.runScript(2, 30007010L));
        line("x.save(0)", x.save(0));
        line("x.trade()", x.trade());
        line("x.leave(bert)", x.leave(bert));
        line("x.trader(bert, 3)", x.trader(bert, 3));
        line("x.undo()", x.undo());
        line("x.restore(0)", x.restore(0));
    }

    private void text() {
        TradeRings y = new TradeRings();
        String market = "M20651/10!";
        CHECK.same("README.md has the market", lines.contains("for (char c : \"" + market + "\".toCharArray()) {") ? 1 : 0, 1);
        for (char c : market.toCharArray()) {
            y.append(c);
        }
        line("y.errorPosition()", y.errorPosition());
        line("y.load()", y.load());
        line("y.holder(0)", y.holder(0));
        line("y.clearText()", y.clearText());
        line("y.errorPosition()", y.errorPosition());
    }

    private void noMore() {
        CHECK.same("lines that are not tested", nextLine() == null ? 0 : 1, 0);
    }
}
