import java.io.IOException;
import java.nio.charset.StandardCharsets;
import java.nio.file.Files;
import java.nio.file.Path;
import java.util.ArrayList;
import java.util.BitSet;
import java.util.LinkedHashMap;
import java.util.List;
import java.util.Map;
import java.util.TreeMap;
import java.util.regex.Matcher;
import java.util.regex.Pattern;

/**
 * The words that the tests quote by sentence() stand in the document, and no words of the document that could name a
 * boundary are left that no test quotes.
 */
public final class SentencesTest {
    private static final Path DOCUMENT = Path.of("../shared/DOC.md");
    private static final Path TESTS = Path.of("src/test/java");
    private static final String STRING = "\"((?:[^\"\\\\]|\\\\.)*)\"";
    private static final Pattern QUOTE = Pattern.compile(
            "\\.sentence\\(\\s*" + STRING + "\\s*,\\s*((?:" + STRING + "[\\s+]*)+|[A-Z_]+)\\)");
    private static final Pattern CONSTANT = Pattern.compile(
            "String ([A-Z_]+)\\s*=\\s*((?:" + STRING + "[\\s+]*)+);");
    /** Words that name no boundary: what there is, or what another sentence says with its numbers. */
    private static final String[] PLAIN = {
        "The books of a parking garage: bays of three sizes on levels, guidance to the nearest bay, reservations that "
        + "hold bays, tickets, fees by the clock with steps, overstays, lost tickets, and accounts; settings can be "
        + "told by a text.",
        "what later calls answer is free.",
        "Money is told in cents.",
        "A reservation has a plate, a bay, a begin and an end (minutes), a price, and",
        "When a car enters, a bay is sought:",
        "holds its bay now (the first one of several; no other one is looked at), and its",
        "There are two tariffs, 0 the normal one and 1 the one for overstays.",
        "The sum of a tariff for d minutes is the sum,", ", of price * units, where", ", and m is",
        "otherwise its sum for d,",
        "which is built one character at a time:",
        "The text is read from left to right;",
        "The constants:",
        "The constructor and the methods follow, a promise each: the signature, then what it does.",
        "Sets a number.", "Returns a number.", "Returns a property of a bay.", "Returns a property of a reservation.",
        "Returns a property of the ticket of a car that is inside.", "Returns a property of a step of a tariff.",
        "Returns an account.", "Tells what a number of minutes costs.", "Lets time pass.", "Lets a car enter.",
    };
    private static final Check CHECK = new Check("SentencesTest");

    private SentencesTest() {
    }

    public static void main(String[] arguments) throws IOException {
        Map<String, String> sections = sections();
        Map<String, BitSet> quoted = new TreeMap<>();
        int quotes = 0;
        for (String[] quote : quotes()) {
            String section = sections.getOrDefault(quote[0], "");
            CHECK.holds("\"" + quote[1] + "\" stands in \"" + quote[0] + "\"", section.contains(quote[1]));
            mark(quote[1], section, quoted.computeIfAbsent(quote[0], name -> new BitSet()));
            quotes++;
        }
        CHECK.holds("there are quotes", quotes > 100);
        for (Map.Entry<String, String> section : sections.entrySet()) {
            lookForOthers(section.getKey(), section.getValue(), quoted.getOrDefault(section.getKey(), new BitSet()));
        }
        CHECK.end();
    }

    /** The sections of the document, from what it is to the last promise, with one space for all that is white. */
    private static Map<String, String> sections() throws IOException {
        Map<String, String> sections = new LinkedHashMap<>();
        String name = "";
        boolean code = false;
        for (String line : Files.readString(DOCUMENT, StandardCharsets.UTF_8).split("\n")) {
            code ^= line.startsWith("```");
            if (line.startsWith("#")) {
                name = line.replaceAll("^#+ ", "").replaceAll(":.*", "");
                sections.put(name, "");
            } else if (!code && !line.startsWith("----") && !line.startsWith("```") && !line.matches("`.*`")) {
                sections.put(name, (sections.get(name) + " " + plain(line.replaceAll("^- ", "- "))).trim());
            }
        }
        sections.remove("ParkingGarage");
        sections.remove("Not promised");
        return sections;
    }

    private static String plain(String text) {
        return text.replaceAll("\\s+", " ").trim();
    }

    private static List<String[]> quotes() throws IOException {
        List<String[]> quotes = new ArrayList<>();
        try (var files = Files.list(TESTS)) {
            for (Path file : files.sorted().toList()) {
                String text = Files.readString(file, StandardCharsets.UTF_8);
                Map<String, String> constants = new TreeMap<>();
                Matcher constant = CONSTANT.matcher(text);
                while (constant.find()) {
                    constants.put(constant.group(1), string(constant.group(2)));
                }
                Matcher quote = QUOTE.matcher(text);
                while (quote.find()) {
                    String words = quote.group(2);
                    words = words.startsWith("\"") ? string(words) : constants.getOrDefault(words, words);
                    quotes.add(new String[] {quote.group(1), plain(words)});
                }
            }
        }
        return quotes;
    }

    /** The text that strings of Java, joined by +, stand for. */
    private static String string(String java) {
        StringBuilder text = new StringBuilder();
        Matcher part = Pattern.compile(STRING).matcher(java);
        while (part.find()) {
            text.append(part.group(1).replaceAll("\\\\(.)", "$1"));
        }
        return text.toString();
    }

    private static void mark(String words, String section, BitSet marked) {
        for (int place = section.indexOf(words); place >= 0; place = section.indexOf(words, place + 1)) {
            marked.set(place, place + words.length());
        }
    }

    private static void lookForOthers(String name, String section, BitSet quoted) {
        for (String words : PLAIN) {
            mark(words, section, quoted);
        }
        StringBuilder left = new StringBuilder();
        for (int place = 0; place < section.length(); place++) {
            left.append(quoted.get(place) ? '|' : section.charAt(place));
        }
        for (String words : left.toString().split("\\|+")) {
            CHECK.holds(name + ": \"" + words.trim() + "\" is quoted", !words.matches(".*[A-Za-z0-9].*"));
        }
    }
}
