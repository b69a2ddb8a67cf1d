import java.nio.charset.StandardCharsets;
import java.nio.file.Files;
import java.nio.file.Path;
import java.util.ArrayList;
import java.util.Arrays;
import java.util.List;
import java.util.regex.Matcher;
import java.util.regex.Pattern;
import java.util.stream.Stream;

/** Each sentence of the document's Terms and of each promise is one that some test is named by (Doc.says). */
public final class SentencesTest {
    private static final int PROMISES = 42;

    public static void main(String[] args) throws Exception {
        String text = Doc.text();
        boolean[] told = new boolean[text.length()];
        for (String sentence : sentences()) {
            int at = text.indexOf(sentence);
            Check.due("the document says: " + sentence, at >= 0, true);
            while (at >= 0) {
                Arrays.fill(told, at, at + sentence.length(), true);
                at = text.indexOf(sentence, at + 1);
            }
        }
        int terms = text.indexOf("## Terms");
        untold("Terms", text, told, terms + "## Terms".length(), text.indexOf("Ahead of the calls"));
        for (int promise = 1; promise <= PROMISES; promise++) {
            int from = text.indexOf("## Promise " + promise + ":");
            Check.due("promise " + promise + " is there", from >= 0, true);
            from = text.indexOf("`: ", from) + 3;
            int to = text.indexOf("## ", from);
            untold("promise " + promise, text, told, from, to);
        }
        Check.due("no promise more", text.contains("## Promise " + (PROMISES + 1)), false);
        Check.end("SentencesTest");
    }

    /** What no test is named by, but for signs between sentences and the headings of sections. */
    private static void untold(String where, String text, boolean[] told, int from, int to) {
        StringBuilder rest = new StringBuilder();
        for (int i = from; i < to; i++) {
            rest.append(told[i] ? '|' : text.charAt(i));
        }
        String left = rest.toString().replaceAll("==== \\d\\.", "").replace("```text", "").replace("```", "");
        left = left.replaceAll("[|\\s]+", " ").strip();
        if (!left.isEmpty()) {
            System.out.println(where + ", told by no test: " + left);
        }
        Check.due("what no test tells of " + where, left.length(), 0);
    }

    private static List<String> sentences() throws Exception {
        List<String> all = new ArrayList<>();
        try (Stream<Path> files = Files.list(Path.of("src/test/java"))) {
            for (Path file : files.sorted().toList()) {
                if (file.getFileName().toString().equals("SentencesTest.java")) {
                    continue;
                }
                String code = Files.readString(file, StandardCharsets.UTF_8);
                Matcher says = Pattern.compile("Doc\\.says\\(((?:\\s*\\+?\\s*\"[^\"]*\")+)\\)").matcher(code);
                while (says.find()) {
                    all.add(Doc.plain(says.group(1).replaceAll("\"\\s*\\+\\s*\"", "").replaceAll("^\\s*\"|\"$", "")));
                }
            }
        }
        return all;
    }
}
