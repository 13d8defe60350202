import java.io.IOException;
import java.nio.file.Files;
import java.nio.file.Path;
import java.util.ArrayList;
import java.util.HashMap;
import java.util.HashSet;
import java.util.LinkedHashMap;
import java.util.List;
import java.util.Map;
import java.util.Set;

/** The document, sentence by sentence: a test quotes what it tests, and no sentence stays without a test. */
final class Book {
    private static final Path DOCUMENT = Path.of("..", "shared", "DOC.md");
    private static final List<String> TERMS = List.of("Terms", "Lots", "Items and rules", "Bids", "Sets of bids",
            "Payments", "Closing", "Exceptions");

    private final Check check;
    private final Map<String, List<String>> sections = new LinkedHashMap<>();
    private final Map<String, Set<String>> quoted = new HashMap<>();
    private final List<Claim> claims = new ArrayList<>();

    Book(Check check) throws IOException {
        this.check = check;
        String section = "";
        StringBuilder paragraph = new StringBuilder();
        for (String line : Files.readAllLines(DOCUMENT)) {
            boolean heading = line.startsWith("## ") || line.startsWith("<h2>");
            if (heading || line.isBlank() || line.startsWith("- ")) {
                addParagraph(section, paragraph.toString());
                paragraph.setLength(0);
            }
            if (heading) {
                section = line.replace("## ", "").replaceAll("</?h2>", "").replaceAll("^(Promise \\d+):.*", "$1");
            } else {
                paragraph.append(paragraph.length() == 0 ? "" : " ").append(line);
            }
        }
        addParagraph(section, paragraph.toString());
    }

    /** A promise's first paragraph begins with the method's head, which is no sentence. */
    private void addParagraph(String section, String paragraph) {
        String text = paragraph.startsWith("`") ? paragraph.replaceFirst("^`[^`]*`: ", "") : paragraph;
        for (String sentence : text.split("(?<=\\.) ")) {
            if (!sentence.isBlank()) {
                sections.computeIfAbsent(section, key -> new ArrayList<>()).add(sentence);
            }
        }
    }

    Claim claim(String section, Class<? extends RuntimeException> thrown, String... sentences) {
        for (String sentence : sentences) {
            boolean stands = sections.getOrDefault(section, List.of()).contains(sentence);
            check.same("the document says under " + section + ", \"" + sentence + "\"", stands, true);
            quoted.computeIfAbsent(section, key -> new HashSet<>()).add(sentence);
        }
        Claim claim = new Claim(check, section + ", \"" + String.join(" ", sentences) + "\"", thrown);
        claims.add(claim);
        return claim;
    }

    /** Every sentence of the terms and of the promises has a test, but for those that name an argument. */
    void end() {
        check.same("promises", sections.keySet().stream().filter(name -> name.startsWith("Promise ")).count(), 40L);
        for (String section : sections.keySet()) {
            if (section.startsWith("Promise ") || TERMS.contains(section)) {
                for (String sentence : sections.get(section)) {
                    boolean tested = quoted.getOrDefault(section, Set.of()).contains(sentence);
                    check.same("tested: " + section + ", \"" + sentence + "\"",
                            tested || sentence.startsWith("- "), true);
                }
            }
        }
        for (Claim claim : claims) {
            check.same("a claim is checked", claim.isChecked(), true);
        }
    }
}
