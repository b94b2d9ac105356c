import java.io.IOException;
import java.nio.charset.StandardCharsets;
import java.nio.file.Files;
import java.nio.file.Path;
import java.util.ArrayList;
import java.util.List;
import java.util.Set;
import java.util.TreeSet;
import java.util.regex.MatchResult;
import java.util.regex.Matcher;
import java.util.regex.Pattern;
import java.util.stream.Collectors;
import java.util.stream.Stream;

/** README.md: what it says of answers is so, and no call, constant, refusal or test is missing from it. */
public final class ReadmeTest {
    private static final Check CHECK = new Check("ReadmeTest");

    private static final Pattern REFUSALS = Pattern.compile("\\b(BAD|STATE|FULL)\\b");

    public static void main(String[] args) throws IOException {
        String readme = read("README.md");
        example(part(readme, "## Use"));
        texts(part(readme, "### What is told by the text"));
        items(part(readme, "### What is told by the text"));
        calls(part(readme, "### The calls"), read("../shared/DOC.md"));
        constants(part(readme, "### What a refused call answers"));
        tests(part(readme, "## Tests"));
        CHECK.end();
    }

    private static String read(String file) throws IOException {
        return new String(Files.readAllBytes(Path.of(file)), StandardCharsets.ISO_8859_1);
    }

    /** What stands behind this headline, till the next one. */
    private static String part(String readme, String headline) {
        Matcher found = Pattern.compile("(?ms)^" + headline + "$(.*?)(?=^##|\\z)").matcher(readme);
        boolean there = found.find();
        CHECK.due("there is a part " + headline, there ? 1 : 0, 1);
        return there ? found.group(1) : "";
    }

    private static List<MatchResult> all(String pattern, String text) {
        return Pattern.compile(pattern, Pattern.MULTILINE).matcher(text).results().collect(Collectors.toList());
    }

    private static void many(String things, int got, int least) {
        CHECK.due(things + " are found: " + got, got >= least ? 1 : 0, 1);
    }

    private static void example(String use) {
        String told = all("\"([^\"]*)\"\\.toCharArray", use).get(0).group(1);
        Tale tale = Tale.fresh(CHECK, "the example").types(told);
        List<MatchResult> lines = all("^x\\.(\\w+)\\(([^)]*)\\);( *// (-?\\d+):.*)?$", use);
        for (MatchResult line : lines) {
            CHECK.due("an answer is told: " + line.group(), line.group(3) == null ? 0 : 1, 1);
            String call = (line.group(1) + " " + line.group(2).replace(",", "")).trim();
            tale.due(call, line.group(4) == null ? 0 : Integer.parseInt(line.group(4)));
        }
        many("lines of the example", lines.size(), 20);
        CHECK.due("all lines that begin with x.", lines.size(), all("^x\\.", use).size());
    }

    private static void texts(String part) {
        List<MatchResult> rows = all("^\\| `([^`]*)` \\| (-?\\d+) \\|", part);
        for (MatchResult row : rows) {
            Tale.fresh(CHECK, "the text " + row.group(1)).types(row.group(1)).due("cell", Integer.parseInt(row.group(2)));
        }
        many("texts", rows.size(), 6);
    }

    /** Each item with the least and the most that the page names may be told, and none with one more; or none is told. */
    private static void items(String part) {
        UpwardGrants x = new UpwardGrants();
        StringBuilder first = new StringBuilder();
        for (int what = 0; what <= 5; what++) {
            first.append(x.count(what)).append(' ');
        }
        StringBuilder named = new StringBuilder();
        List<MatchResult> rows = all("^\\| `([tcsbr]) [A-Z][^`]*` \\|[^|]*\\|([^|]*)\\|([^|]*)\\|$", part);
        StringBuilder letters = new StringBuilder();
        for (MatchResult row : rows) {
            String letter = row.group(1);
            letters.append(letter);
            named.append(row.group(3).trim().replaceAll("no \\w+", "0").replace(",", "")).append(' ');
            String begun = letter.equals("c") ? "t1;c0 " : letter;
            List<MatchResult> ranges = all("\\b(\\d+) to (\\d+)\\b", row.group(2));
            ends(begun, ranges, 1, -1);
            ends(begun, ranges, 2, -1);
            for (int wrong = 0; wrong < ranges.size(); wrong++) {
                ends(begun, ranges, 2, wrong);
            }
        }
        CHECK.due("the items: " + letters, letters.toString().equals("tcsbr") ? 1 : 0, 1);
        CHECK.due("if none is told: " + named, named.toString().equals(first.toString()) ? 1 : 0, 1);
    }

    /** The item with the end of each range that the group has; of the one that is wrong (-1: none), one more than that. */
    private static void ends(String begun, List<MatchResult> ranges, int group, int wrong) {
        StringBuilder text = new StringBuilder(begun);
        int want = begun.length() > 1 ? 2 : 1;
        for (int i = 0; i < ranges.size(); i++) {
            want = i == wrong ? -10 - text.length() : want;
            text.append(Integer.parseInt(ranges.get(i).group(group)) + (i == wrong ? 1 : 0)).append(' ');
        }
        text.append(';');
        Tale.fresh(CHECK, "the item " + text).types(text.toString()).due("cell", want);
    }

    /** In the order of the document, each with as many parameters, and refused as its promise says. */
    private static void calls(String part, String document) {
        List<String> named = new ArrayList<>();
        for (MatchResult row : all("^\\| `(\\w+)\\(([^)]*)\\)` \\|.*\\|([^|]*)\\|$", part)) {
            String name = row.group(1);
            int parameters = row.group(2).isEmpty() ? 0 : row.group(2).split(",").length;
            named.add(name + " " + parameters);
            String promise = part(document, "## Promise \\d+: " + name);
            Set<String> want = refusals(promise);
            Set<String> got = refusals(row.group(3));
            CHECK.due(name + " is refused by " + got + ", due is " + want, got.equals(want) ? 1 : 0, 1);
        }
        CHECK.due("all calls, in their order: " + named, named.equals(List.of(FaceTest.METHODS)) ? 1 : 0, 1);
    }

    private static Set<String> refusals(String text) {
        return REFUSALS.matcher(text).results().map(MatchResult::group).collect(Collectors.toCollection(TreeSet::new));
    }

    private static void constants(String part) {
        List<MatchResult> rows = all("`UpwardGrants\\.(\\w+)`(?: \\||,) (-\\d+)", part);
        for (MatchResult row : rows) {
            int value = switch (row.group(1)) {
                case "BAD" -> UpwardGrants.BAD;
                case "STATE" -> UpwardGrants.STATE;
                case "FULL" -> UpwardGrants.FULL;
                case "NONE" -> UpwardGrants.NONE;
                default -> 0;
            };
            CHECK.due(row.group(1) + " as README.md has it", Integer.parseInt(row.group(2)), value);
        }
        CHECK.due("constants", rows.size(), 4);
    }

    private static void tests(String part) throws IOException {
        Set<String> named = new TreeSet<>();
        for (MatchResult row : all("^\\| `(\\w+)` \\|", part)) {
            named.add(row.group(1) + ".java");
        }
        Set<String> there;
        try (Stream<Path> files = Files.list(Path.of("src/test/java"))) {
            there = files.map(file -> file.getFileName().toString()).filter(name -> name.endsWith("Test.java"))
                    .collect(Collectors.toCollection(TreeSet::new));
        }
        CHECK.due("the tests " + named + " are " + there, named.equals(there) ? 1 : 0, 1);
        many("tests", there.size(), 13);
    }
}
