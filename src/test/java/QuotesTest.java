import java.io.IOException;
import java.nio.file.Files;
import java.nio.file.Path;
import java.util.ArrayList;
import java.util.List;
import java.util.Map;
import java.util.TreeMap;
import java.util.regex.Matcher;
import java.util.regex.Pattern;
import java.util.stream.Stream;

/**
 * A row above a test tells which words of the document it holds. Here they are held against the
 * document: they stand in that place, and no part of the Terms or of a promise is without a test.
 */
public final class QuotesTest {
    private static final Path DOCUMENT = Path.of("../shared/DOC.md");
    private static final Path TESTS = Path.of("src/test/java");
    private static final Pattern QUOTE =
        Pattern.compile("^ *// (?:---- )?((?:Promise|Terms) ?[0-9]*): \"(.*)\"$", Pattern.MULTILINE);
    private static final Pattern PART = Pattern.compile("[^.;:,]+");

    /** Ahead of the first words for an argument: they only say what it is, so no test has to quote them. */
    private static final String ARGUMENT = "^";

    private static int wrong;

    public static void main(String[] args) throws IOException {
        Map<String, String> places = placesOf(Files.readString(DOCUMENT));
        due(places.size() == 1 + 5 + 35, "the document has " + places.size() + " places");
        Map<String, List<String>> quotes = quotesOf(places);
        for (Map.Entry<String, String> place : places.entrySet()) {
            if (!place.getKey().equals("Terms")) {
                judge(place.getKey(), place.getValue(), quotes.getOrDefault(place.getKey(), List.of()));
            }
        }
        System.out.println(wrong == 0 ? "all is quoted, and as it stands" : wrong + " are wrong");
        if (wrong != 0) {
            System.exit(1);
        }
    }

    private static void due(boolean isSo, String text) {
        if (!isSo) {
            wrong++;
            System.out.println(text);
        }
    }

    /** Without line ends and signs; of what is told of an argument, its name is left out. */
    private static String flat(String text) {
        return text.replaceAll("- `[a-zA-Z]+`:", ";" + ARGUMENT).replaceAll("\\s+", " ").trim();
    }

    /** The words of each place by its name; Terms alone is all that stands ahead of promise 1. */
    private static Map<String, String> placesOf(String document) {
        Map<String, String> places = new TreeMap<>();
        String[] sections = document.split("(?m)^## ");
        StringBuilder ahead = new StringBuilder();
        for (String section : sections) {
            Matcher heading = Pattern.compile("^(Promise [0-9]+): .*").matcher(section);
            if (heading.find()) {
                // a heading and the signature behind it are no words to be held
                places.put(heading.group(1), flat(section.substring(heading.end()).replaceFirst("`[^`]*`:", ""))
                        .replace("`", ""));
            } else if (!section.startsWith("Not promised")) {
                ahead.append(section).append('\n');
            }
        }
        places.put("Terms", flat(ahead.toString()).replace("`", ""));
        Pattern pattern = Pattern.compile("(?ms)^([1-5]) [A-Z ]+[^.]*\\.(.*?)(?=^[1-5] [A-Z]|^A method that throws)");
        Matcher term = pattern.matcher(ahead);
        while (term.find()) {
            places.put("Terms " + term.group(1), flat(term.group(2).replace("```text", "").replace("```", "")));
        }
        return places;
    }

    private static Map<String, List<String>> quotesOf(Map<String, String> places) throws IOException {
        Map<String, List<String>> quotes = new TreeMap<>();
        List<Path> files = new ArrayList<>();
        try (Stream<Path> all = Files.list(TESTS)) {
            all.filter(file -> file.toString().endsWith("Test.java")).sorted().forEach(files::add);
        }
        for (Path file : files) {
            Matcher quote = QUOTE.matcher(Files.readString(file));
            while (quote.find()) {
                String place = quote.group(1);
                due(places.getOrDefault(place, "").contains(quote.group(2)),
                        file + " quotes what does not stand in " + place + ": " + quote.group(2));
                quotes.computeIfAbsent(place, key -> new ArrayList<>()).add(quote.group(2));
            }
        }
        return quotes;
    }

    /** Of each part between two stops, a letter or a number at least is quoted. */
    private static void judge(String place, String words, List<String> quotes) {
        boolean[] isQuoted = new boolean[words.length()];
        for (String quote : quotes) {
            for (int at = words.indexOf(quote); at >= 0; at = words.indexOf(quote, at + 1)) {
                for (int i = at; i < at + quote.length(); i++) {
                    isQuoted[i] = Character.isLetterOrDigit(words.charAt(i)) || isQuoted[i];
                }
            }
        }
        Matcher part = PART.matcher(words);
        while (part.find()) {
            boolean isAnyQuoted = part.group().isBlank() || part.group().startsWith(ARGUMENT);
            for (int i = part.start(); i < part.end(); i++) {
                isAnyQuoted |= isQuoted[i];
            }
            due(isAnyQuoted, place + ": no test quotes: " + part.group());
        }
    }
}
