import java.io.IOException;
import java.nio.file.Files;
import java.nio.file.Path;
import java.util.ArrayList;
import java.util.List;
import java.util.Map;
import java.util.TreeMap;
import java.util.regex.Matcher;
import java.util.regex.Pattern;

/** What README.md tells of each promise's call is held against the document, and its example is played. */
public final class ReadmeTest {
    private static final Pattern PROMISE =
        Pattern.compile("^## (Promise [0-9]+): .*\n\n`([^(]*\\((.*?)\\))(?: throws ([^`]*))?`", Pattern.MULTILINE);
    private static final Pattern SECTION =
        Pattern.compile("^#### `([^`]*)`\n(.*?)(?=^#{2,4} )", Pattern.MULTILINE | Pattern.DOTALL);
    private static final Pattern NAME = Pattern.compile("`([a-z][A-Za-z]*)`, ");
    private static final Pattern EXCEPTION = Pattern.compile("`([A-Z][A-Za-z]*Exception)` if ");

    private static final Check check = new Check();

    public static void main(String[] args) throws IOException {
        String readme = Files.readString(Path.of("README.md"));
        theCalls(readme, Files.readString(Path.of("../shared/DOC.md")));
        theExample(readme);
        check.due("README.md has a row that is the command of the tests", readme.contains("\n    .ci/run\n"), true);
        check.end();
    }

    private static void theCalls(String readme, String document) {
        Map<String, String> sections = new TreeMap<>();
        Matcher section = SECTION.matcher(readme);
        while (section.find()) {
            sections.put(section.group(1), section.group(2));
        }
        int promises = 0;
        Matcher promise = PROMISE.matcher(document);
        while (promise.find()) {
            promises++;
            String told = sections.getOrDefault(promise.group(2), "");
            theCall(promise.group(1) + ", " + promise.group(2), told, promise.group(3), promise.group(4));
        }
        check.due("promises of the document", promises, 35);
        check.due("calls told in README.md", sections.size(), 35);
    }

    private static void theCall(String what, String told, String parameters, String exceptions) {
        List<String> names = new ArrayList<>();
        for (String parameter : parameters.isEmpty() ? new String[0] : parameters.split(", ")) {
            names.add(parameter.substring(parameter.indexOf(' ') + 1));
        }
        check.due(what + " takes, in README.md,", namedIn(NAME, point(told, "Takes")), names.toString());
        check.due(what + " throws, in README.md,", namedIn(EXCEPTION, point(told, "Throws")),
                exceptions == null ? "[]" : List.of(exceptions.split(", ")).toString());
        check.due(what + " answers something, in README.md,", !point(told, "Answers").isBlank(), true);
    }

    /** What stands behind such a word in a section: what is told there, or nothing. */
    private static String point(String told, String word) {
        Matcher point = Pattern.compile("^- " + word + ": (.*?)\n(?=- |\n|\\z)", Pattern.MULTILINE | Pattern.DOTALL)
            .matcher(told);
        return point.find() ? point.group(1).replaceAll("\\s+", " ") : "";
    }

    /** All that a pattern finds; a point that names nothing has to say so. */
    private static String namedIn(Pattern pattern, String point) {
        List<String> names = new ArrayList<>();
        Matcher name = pattern.matcher(point);
        while (name.find()) {
            names.add(name.group(1));
        }
        return names.isEmpty() == point.equals("nothing") ? names.toString() : "unclear: " + point;
    }

    /** The example's rows with an answer behind them, in their order. */
    private static void theExample(String readme) {
        PuppetTheatre x = new PuppetTheatre();
        int off = x.addState(0, 0);
        int on = x.addState(0, 0);
        int press = x.addTransition(off, 0, 1, on);
        x.addTransition(on, 1, 5, off);
        x.setAction(press, 2, 0, 1);
        String[] calls = {"start()", "send(1)", "active()", "variable(0)", "tick(5)", "rowTo(on, 3)", "rowAt(0)", "stop()"};
        long[] answers = {x.start(), x.send(1), x.active(), x.variable(0), x.tick(5), x.rowTo(on, 3), x.rowAt(0), x.stop()};
        int at = 0;
        for (int i = 0; i < calls.length; i++) {
            Matcher row = Pattern.compile("\nx\\." + Pattern.quote(calls[i]) + "; +// ([0-9]+)\\b").matcher(readme);
            boolean isThere = row.find(at);
            check.due("the example's x." + calls[i], isThere ? row.group(1) : "nothing", Long.toString(answers[i]));
            at = isThere ? row.end() : at;
        }
    }
}
