import java.io.IOException;
import java.nio.file.Files;
import java.nio.file.Path;
import java.util.ArrayList;
import java.util.LinkedHashMap;
import java.util.List;
import java.util.Map;

/**
 * All boundaries, sentence by sentence. Each check belongs to a sentence that is quoted from the
 * document; each quotation must stand there, and each sentence of the promises and of the Terms
 * must be quoted, but for those that name nothing to test.
 */
public final class BoundariesTest {
    private static final Check CHECK = new Check("BoundariesTest");

    /** Sentences that only name what others tell. */
    private static final List<String> WITHOUT_TEST = List.of("Returns a number", "Returns that number",
        "Returns a number of a trader", "Returns a number of a ring of the trading", "Returns a rank",
        "Returns who has a thing", "Tells why two traders cannot exchange what they hold", "- i: trader",
        "- j: trader", "- t: thing", "- k: ring", "Tells how well all could be served",
        "Returns what a trader would hold then", "Counts better ways to share",
        "Tells whom a trader who leaves would harm", "Tells by how few exchanges a trader could come to a thing",
        "Each refusal has a reason", "Changes can be undone");

    public static void main(String[] args) throws IOException {
        new TextBoundaries(CHECK).all();
        new MarketBoundaries(CHECK).all();
        new ActionBoundaries(CHECK).all();
        new WouldBeBoundaries(CHECK).all();
        new ScriptBoundaries(CHECK).all();
        new SlotBoundaries(CHECK).all();
        new RefusalBoundaries(CHECK).all();
        Map<String, Integer> quoted = new LinkedHashMap<>(CHECK.checksOfSentences());
        CHECK.sentence("tests", "each sentence of the document has one");
        Map<String, String> sections = sectionsOf(Files.readAllLines(Path.of(args[1])));
        quotationsStand(quoted, sections);
        allIsQuoted(quoted, sections);
        CHECK.end();
    }

    /** The text of each promise, by its number, and of each part of the Terms, by its heading. */
    private static Map<String, String> sectionsOf(List<String> lines) {
        Map<String, String> sections = new LinkedHashMap<>();
        String section = "";
        boolean isCode = false;
        for (String line : lines) {
            isCode ^= line.startsWith("```");
            if (line.startsWith("## Promise ")) {
                section = line.replaceAll("## Promise (\\d+):.*", "$1");
            } else if (line.startsWith("## ")) {
                section = line.substring(3).strip();
            } else if (line.matches("[A-Z][A-Z ]+")) {
                section = line;
            } else if (!isCode) {
                String plain = line.replaceFirst("^`[^`]*\\(.*\\).*?`: ", "").replace("`", "");
                // A paragraph or an item of a list ends what stands before it; a line does not.
                String mark = line.isBlank() || line.startsWith("- ") ? "\n" : " ";
                sections.merge(section, plain, (before, more) -> before + mark + more);
            }
        }
        return sections;
    }

    private static List<String> sentencesOf(String section) {
        List<String> sentences = new ArrayList<>();
        for (String paragraph : section.split("\n")) {
            for (String sentence : paragraph.split("(?<=[.])\\s+")) {
                String plain = plain(sentence);
                if (!plain.isEmpty()) {
                    sentences.add(plain);
                }
            }
        }
        return sentences;
    }

    private static String plain(String words) {
        return words.replaceAll("\\s+", " ").strip().replaceFirst("[.;:]$", "");
    }

    private static void quotationsStand(Map<String, Integer> quoted, Map<String, String> sections) {
        for (Map.Entry<String, Integer> entry : quoted.entrySet()) {
            String section = entry.getKey().substring(0, entry.getKey().indexOf(": "));
            String words = entry.getKey().substring(section.length() + 2);
            CHECK.same("the section " + section + " has: " + words,
                plain(sections.getOrDefault(section, "")).contains(plain(words)) ? 1 : 0, 1);
            CHECK.same("a check belongs to " + entry.getKey(), entry.getValue() > 0 ? 1 : 0, 1);
        }
    }

    private static void allIsQuoted(Map<String, Integer> quoted, Map<String, String> sections) {
        for (Map.Entry<String, String> section : sections.entrySet()) {
            boolean isOfTerms = section.getKey().matches("[A-Z ]+|Terms");
            if (!isOfTerms && !section.getKey().matches("\\d+")) {
                continue;
            }
            for (String sentence : sentencesOf(section.getValue())) {
                CHECK.same("a test quotes of " + section.getKey() + ": " + sentence,
                    isQuoted(sentence, section.getKey(), quoted) ? 1 : 0, 1);
            }
        }
    }

    /** Whether every word of the sentence stands in a quotation, or in none that needs one. */
    private static boolean isQuoted(String sentence, String section, Map<String, Integer> quoted) {
        if (WITHOUT_TEST.contains(sentence) || sentence.startsWith("Ahead of the calls ")
                && !sentence.contains("change nothing")) {
            return true;
        }
        StringBuilder rest = new StringBuilder(sentence.replaceFirst("^Ahead of the calls .* says: ", ""));
        String whole = rest.toString();
        for (String entry : quoted.keySet()) {
            if (entry.startsWith(section + ": ")) {
                String words = plain(entry.substring(section.length() + 2));
                int start = words.contains(whole) ? 0 : whole.indexOf(words);
                for (int k = start; start >= 0 && k < Math.min(whole.length(), start + words.length()); k++) {
                    rest.setCharAt(k, ' ');
                }
            }
        }
        return !rest.toString().matches(".*\\w.*");
    }
}
