import java.util.ArrayList;
import java.util.LinkedHashMap;
import java.util.List;
import java.util.Map;

/** The document's sentences that tests have named: whether they stand there, and whether any was left out. */
final class Sentences {
    private final Map<String, List<String>> quoted = new LinkedHashMap<>();

    void quote(String where, String sentence) {
        quoted.computeIfAbsent(where, w -> new ArrayList<>()).add(sentence);
    }

    List<String> complaints(String document) {
        List<String> complaints = new ArrayList<>();
        Map<String, String> sections = sections(document);
        if (sections.size() != 46 + 4) {
            complaints.add("the document has " + sections.size() + " promises and terms, 46 and 4 are due");
        }
        for (String where : quoted.keySet()) {
            if (!sections.containsKey(where)) {
                complaints.add(where + " is named, but isn't in the document");
            }
        }
        for (Map.Entry<String, String> section : sections.entrySet()) {
            complain(complaints, section.getKey(), section.getValue());
        }
        return complaints;
    }

    /** Takes each quote out of a section's text; what words are left have no test. */
    private void complain(List<String> complaints, String where, String text) {
        char[] left = text.toCharArray();
        for (String sentence : quoted.getOrDefault(where, List.of())) {
            int at = text.indexOf(sentence);
            if (at < 0) {
                complaints.add(where + " doesn't say '" + sentence + "'");
            }
            while (at >= 0) {
                for (int i = at; i < at + sentence.length(); i++) {
                    left[i] = '_';
                }
                at = text.indexOf(sentence, at + 1);
            }
        }
        for (String rest : new String(left).split("_+")) {
            if (rest.matches(".*[A-Za-z0-9].*")) {
                complaints.add(where + " says '" + rest.trim() + "', which no test names");
            }
        }
    }

    private static Map<String, String> sections(String document) {
        Map<String, String> sections = new LinkedHashMap<>();
        String where = "";
        for (String line : document.split("\n")) {
            if (line.startsWith("## Promise ")) {
                where = "promise " + line.substring(11, line.indexOf(':'));
            } else if (line.startsWith("#") || line.startsWith("The constants:")) {
                where = "";
            } else if (line.matches("(I|II|III|IV)\\. .*")) {
                where = "term " + line.substring(0, line.indexOf('.'));
                sections.put(where, line.substring(line.indexOf('.') + 1).trim());
            } else if (!where.isEmpty() && !line.startsWith("```") && !line.isBlank()) {
                // A promise's text begins with its call, which FaceTest looks at.
                String said = line.startsWith("`") ? line.substring(line.indexOf("`: ") + 3) : line;
                sections.merge(where, said.trim(), (a, b) -> a + " " + b);
            }
        }
        return sections;
    }
}
