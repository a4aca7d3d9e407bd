import java.io.IOException;
import java.nio.file.Files;
import java.nio.file.Path;
import java.util.ArrayList;
import java.util.LinkedHashMap;
import java.util.List;
import java.util.Map;
import java.util.Set;
import java.util.TreeSet;

/** The document itself, so that tests can be held against its words. */
final class Document {
    private static final Path PLACE = Path.of("../shared/DOC.md");
    private static final String CODE = "```";

    private Document() {
    }

    /** The headings with the sentences under them; code and titles of one word are left out. */
    static Map<String, List<String>> sentences() throws IOException {
        Map<String, List<String>> told = new LinkedHashMap<>();
        String heading = "";
        boolean isCode = false;
        for (String line : Files.readAllLines(PLACE)) {
            if (line.startsWith("## ")) {
                heading = line.substring(3);
            } else if (line.startsWith(CODE)) {
                isCode = !isCode;
            } else if (!isCode && !heading.isEmpty()) {
                addSentences(told.computeIfAbsent(heading, made -> new ArrayList<>()), line);
            }
        }
        told.values().removeIf(List::isEmpty);
        return told;
    }

    private static void addSentences(List<String> sentences, String line) {
        String withoutDash = line.startsWith("- ") ? line.substring(2) : line;
        String withoutFace = withoutDash.replaceFirst("^`[^`]*\\([^`]*`: ", "");
        for (String sentence : withoutFace.split("\\.(\\s+|$)")) {
            if (sentence.indexOf(' ') >= 0) {
                sentences.add(sentence);
            }
        }
    }

    /** The members in the code of the face, such as "NONE = -1" and "int pass(int) throws ..". */
    static Set<String> face() throws IOException {
        Set<String> members = new TreeSet<>();
        boolean isCode = false;
        for (String line : Files.readAllLines(PLACE)) {
            if (line.startsWith(CODE)) {
                isCode = !isCode;
            } else if (isCode && line.endsWith(";")) {
                addMembers(members, line.substring(0, line.length() - 1).strip());
            }
        }
        return members;
    }

    private static void addMembers(Set<String> members, String told) {
        String constants = "public static final int ";
        if (told.startsWith(constants)) {
            members.addAll(List.of(told.substring(constants.length()).split(", ")));
        } else {
            members.add(told.replace("public ", "").replace("java.util.", "")
                    .replaceAll("(int|boolean) \\w+(?=[,)])", "$1").replace(", ", ","));
        }
    }
}
