import java.io.IOException;
import java.nio.file.Files;
import java.nio.file.Path;
import java.util.ArrayList;
import java.util.BitSet;
import java.util.LinkedHashMap;
import java.util.List;
import java.util.Map;
import java.util.regex.Matcher;
import java.util.regex.Pattern;

/** ../shared/DOC.md by its parts 1 to 4 and its promises, and which of its words a test has quoted. */
final class Doc {
    private static final Path PATH = Path.of("../shared/DOC.md");
    private static final int PARTS = 4;

    private final Map<String, String> sections = new LinkedHashMap<>();
    private final Map<String, BitSet> quoted = new LinkedHashMap<>();
    private final boolean here = Files.isReadable(PATH);

    Doc() throws IOException {
        if (here) {
            divide(Files.readString(PATH));
        } else {
            System.out.println(PATH + " is not here: quotes are not looked up");
        }
    }

    private void divide(String whole) {
        // part 1 begins in the heading paragraph and goes on under "Terms"
        Matcher head = Pattern.compile("======== 1 (.*)").matcher(whole);
        String begin = head.find() ? head.group(1) : "";
        String terms = between(whole, "\n## Terms\n", "\n## Promise 1:");
        String[] parts = (begin + " " + terms).split("======== \\d ");
        for (int i = 0; i < parts.length; i++) {
            keep("Part " + (i + 1), parts[i]);
        }
        Matcher promise = Pattern.compile("## (Promise \\d+): .*\\s+`[^`]*`: (.*)").matcher(whole);
        while (promise.find()) {
            keep(promise.group(1), promise.group(2));
        }
        keep("What it is", "An object is used" + between(whole, "An object is used", "\n"));
    }

    private static String between(String whole, String from, String to) {
        int begin = whole.indexOf(from) + from.length();
        return whole.substring(begin, whole.indexOf(to, begin));
    }

    private void keep(String section, String text) {
        String plain = text.replaceAll("(?m)^```.*$", "").replaceAll("(?m)^Ahead of the calls.*$", "");
        sections.put(section, plain.replaceAll("\\s+", " ").trim());
        quoted.put(section, new BitSet());
    }

    /** False: the document does not say that there. */
    boolean quote(String section, String words) {
        if (!here) {
            return true;
        }
        String text = sections.getOrDefault(section, "");
        int at = text.indexOf(words);
        if (at < 0) {
            return false;
        }
        quoted.get(section).set(at, at + words.length());
        return true;
    }

    /** The words that no test has quoted, each run of them with its section. */
    List<String> unquoted() {
        List<String> missing = new ArrayList<>();
        if (here && sections.size() != PARTS + 28 + 1) {
            missing.add("the document has other sections: " + sections.keySet());
        }
        for (String section : sections.keySet()) {
            String text = sections.get(section);
            BitSet had = quoted.get(section);
            for (int from = had.nextClearBit(0); from < text.length();) {
                int to = had.nextSetBit(from) < 0 ? text.length() : had.nextSetBit(from);
                String run = text.substring(from, to).trim();
                if (!run.isEmpty()) {
                    missing.add(section + ": " + run);
                }
                from = had.nextClearBit(to);
            }
        }
        return missing;
    }
}
