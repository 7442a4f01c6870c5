import java.io.IOException;
import java.nio.charset.StandardCharsets;
import java.nio.file.Files;
import java.nio.file.Path;
import java.util.ArrayList;
import java.util.LinkedHashMap;
import java.util.List;
import java.util.Map;
import java.util.regex.Pattern;

/** The document's sentences, section by section, so that a test can say which one it stands for. */
final class Document {
    private static final Path PLACE = Path.of("../shared/DOC.md");
    /** What makes a sentence one that names an edge. */
    private static final Pattern EDGE = Pattern.compile("\\d|\\b(Throws|throws|at most|at least|or more|more than|above|none|no|any more"
        + "|empty|nothing|unless|otherwise|Otherwise|as long as|without|Without|lowest|least|better|alone|stays|all in all|a set of)\\b");

    private final Map<String, List<String>> sentences = new LinkedHashMap<>();

    static boolean isThere() {
        return Files.isReadable(PLACE);
    }

    Document() throws IOException {
        String text = Files.readString(PLACE, StandardCharsets.UTF_8).replaceAll("(?s)```.*?```", "");
        for (String section : text.split("\n## ")) {
            String name = section.lines().findFirst().orElse("").replaceAll("^(Promise \\d+).*", "$1");
            sentences.put(name, sentencesOf(section));
        }
    }

    private static List<String> sentencesOf(String section) {
        List<String> found = new ArrayList<>();
        section.lines().skip(1).map(Document::plain).filter(line -> !line.isEmpty())
            .forEach(line -> found.addAll(List.of(line.split("(?<=\\.) (?=[A-Z])"))));
        return found;
    }

    /** Without the call's own line ahead of what it does, and without marks of print. */
    private static String plain(String line) {
        return line.strip().replaceFirst("^`[^`]*\\(.*?`: ", "").replaceFirst("^- ", "").replace("`", "");
    }

    boolean says(String section, String words) {
        return sentences.getOrDefault(section, List.of()).stream().anyMatch(sentence -> sentence.contains(words));
    }

    /** The sentences of the terms and the promises that name an edge, and that none of the quotes stands for. */
    List<String> unquoted(Map<String, List<String>> quotes) {
        List<String> left = new ArrayList<>();
        sentences.forEach((section, all) -> {
            if (!section.equals("Terms") && !section.startsWith("Promise")) return;
            List<String> theirs = quotes.getOrDefault(section, List.of());
            all.stream().filter(s -> EDGE.matcher(s).find() && theirs.stream().noneMatch(s::contains))
                .forEach(s -> left.add(section + ": " + s));
        });
        return left;
    }
}
