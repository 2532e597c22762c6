import java.util.ArrayList;
import java.util.LinkedHashMap;
import java.util.List;
import java.util.Map;
import java.util.regex.Matcher;
import java.util.regex.Pattern;

/** The document's sections, and which of their words a test has quoted. */
final class Document {
    private static final Pattern HEADING = Pattern.compile("(?m)^## ([^:\n]*).*$");
    private static final Pattern BOUNDARY = Pattern.compile(
            "NONE|EMPTY|FULL|KEPT|BROKEN|false|empty|stays|at most|more than|up to|[0-9] \\.\\.|- [0-9]|[0-9]{2}"
            + "|\\b(none|no|No|never|also|isn't|aren't)\\b");
    private static final char QUOTED = '\n';

    private final Map<String, String> sections = new LinkedHashMap<>();
    private final Map<String, StringBuilder> unquoted = new LinkedHashMap<>();

    Document(String text) {
        Matcher heading = HEADING.matcher(text);
        String name = "";
        int start = 0;
        while (heading.find()) {
            keep(name, text.substring(start, heading.start()));
            name = heading.group(1);
            start = heading.end();
        }
        keep(name, text.substring(start));
    }

    private void keep(String name, String text) {
        if (name.equals("What it is") || name.equals("Terms") || name.startsWith("Promise ")) {
            sections.put(name, text.replaceAll("\\s+", " "));
            unquoted.put(name, new StringBuilder(sections.get(name)));
        }
    }

    int sectionCount() {
        return sections.size();
    }

    /** Whether a section has these words; they count as quoted from now on. */
    boolean quote(String section, String words) {
        int start = sections.getOrDefault(section, "").indexOf(words);
        if (start < 0) {
            return false;
        }
        for (int i = start; i < start + words.length(); i++) {
            unquoted.get(section).setCharAt(i, QUOTED);
        }
        return true;
    }

    boolean isQuotedFrom(String section) {
        return unquoted.get(section).indexOf(String.valueOf(QUOTED)) >= 0;
    }

    Iterable<String> sectionNames() {
        return sections.keySet();
    }

    /** Words that no test has quoted, though they name a boundary. */
    List<String> boundariesLeft(String section) {
        List<String> found = new ArrayList<>();
        for (String words : unquoted.get(section).toString().split(QUOTED + "+")) {
            if (BOUNDARY.matcher(words).find()) {
                found.add(words.strip());
            }
        }
        return found;
    }
}
