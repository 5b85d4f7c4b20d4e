import java.io.IOException;
import java.nio.file.Files;
import java.nio.file.Path;
import java.util.ArrayList;
import java.util.List;
import java.util.TreeSet;
import java.util.regex.Matcher;
import java.util.regex.Pattern;

/** README.md by what it shows: code, commands, tests, files. */
final class Readme {
    private final String page;

    Readme() throws IOException {
        page = Files.readString(Path.of("README.md"));
    }

    /** The lines of all blocks of one language, in their order. */
    List<String> lines(String language) {
        List<String> lines = new ArrayList<>();
        Matcher block = Pattern.compile("(?ms)^```(\\w*)\n(.*?)^```$").matcher(page);
        while (block.find()) {
            if (block.group(1).equals(language)) {
                lines.addAll(block.group(2).lines().toList());
            }
        }
        return lines;
    }

    /** The first words of the table's rows, without its head. */
    TreeSet<String> tests() {
        return found("(?m)^\\| (\\w+Test) \\|");
    }

    /** What stands in backquotes in a line and has a slash in it. */
    TreeSet<String> paths() {
        return found("(?<!`)`([^`\n]*/[^`\n]*)`(?!`)");
    }

    private TreeSet<String> found(String pattern) {
        TreeSet<String> all = new TreeSet<>();
        Matcher matcher = Pattern.compile(pattern).matcher(page);
        while (matcher.find()) {
            all.add(matcher.group(1));
        }
        return all;
    }
}
