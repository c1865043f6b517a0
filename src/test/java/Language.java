import java.nio.file.Files;
import java.nio.file.Path;
import java.util.HashSet;
import java.util.List;
import java.util.Set;
import java.util.regex.Matcher;
import java.util.regex.Pattern;

/**
 * Looks for what the rules of ../shared/LANGUAGE.md rule out and a look at lines can find, in the file that it is given.
 * It leans on the file's layout: members of the class stand 4 blanks in, those of the classes inside 8.
 */
public final class Language {
    private static final Pattern HEAD = Pattern.compile("^( {4}| {8})(?! )([\\w<>\\[\\], ]*?)(\\w+)\\(([^)]*)\\) \\{$");
    private static final Set<String> FACE = Set.of("FoldedFilled", "person", "of", "work", "home", "row", "heap", "feed",
        "hall", "told", "pass", "on", "ready", "best", "when", "without", "see", "were", "can", "odds", "mean", "evening",
        "ends", "book", "looked", "judge", "image", "undo", "act", "trace", "taken", "count", "tape", "item", "read",
        "shift");

    private static int wrong;

    private static void wrong(int rule, int line, String text) {
        wrong++;
        System.out.println("LANGUAGE.md, rule " + rule + ", line " + (line + 1) + ": " + text.strip());
    }

    private static boolean isFound(String regex, String text) {
        return Pattern.compile(regex).matcher(text).find();
    }

    /** The line without its comment and without what stands in quotes. */
    private static String bare(String line) {
        String text = line.replaceAll("'.'", "' '").replaceAll("\"[^\"]*\"", "\"\"");
        return text.strip().startsWith("*") || text.strip().startsWith("/*") ? "" : text.replaceAll("//.*", "");
    }

    private static void looksAtWords(List<String> lines) {
        for (int i = 0; i < lines.size(); i++) {
            String line = bare(lines.get(i));
            if (isFound("[^\\x20-\\x7E]", lines.get(i))) {
                wrong(3, i, lines.get(i));
            }
            if (isFound("\\b(throw|throws|try|catch|finally|synchronized|assert|volatile|native)\\b", line)) {
                wrong(6, i, line);
            }
            if (isFound("\\b(import|package|protected|Object|System\\.(?!arraycopy)\\w+|\\w+Exact|Thread)\\b|@", line)) {
                wrong(4, i, line);
            }
            if (isFound("->|::|\\bnew \\w+\\([^)]*\\) \\{", line)) {
                wrong(2, i, line);
            }
            if (isFound("\\bstatic\\b", line) && !isFound("\\(|\\bclass\\b|\\bfinal (int|long|String|int\\[\\]) ", line)) {
                wrong(5, i, line);
            }
            if (isFound("\\bwhile\\b|for \\(;|; ;|;;", line)) {
                wrong(9, i, line);
            }
        }
    }

    private static void looksAtMethods(List<String> lines) {
        Set<String> publicOnes = new HashSet<>();
        for (int i = 0; i < lines.size(); i++) {
            Matcher head = HEAD.matcher(lines.get(i));
            if (!head.matches() || isFound("^\\s*(if|for|switch|while|return|\\})", lines.get(i))) {
                continue;
            }
            String indent = head.group(1);
            String name = head.group(3);
            boolean isConstructor = head.group(2).replace("public", "").isBlank();
            boolean isPublic = head.group(2).contains("public");
            int end = i;
            while (!lines.get(end).equals(indent + "}")) {
                if (!isConstructor && isFound("\\bnew\\b", bare(lines.get(end)))) {
                    wrong(12, end, lines.get(end));
                }
                end++;
            }
            if (end - i > 60 || head.group(4).split(",").length > 7) {
                wrong(11, i, lines.get(i));
            }
            if (isPublic) {
                publicOnes.add(name);
            }
            if (isPublic != FACE.contains(name) || isPublic && indent.length() > 4) {
                wrong(1, i, lines.get(i));
            }
            if (indent.length() == 4 && !isPublic && !head.group(2).contains("private")) {
                wrong(1, i, lines.get(i));
            }
        }
        if (!publicOnes.equals(FACE)) {
            wrong(1, 0, "the face is " + publicOnes);
        }
    }

    private static void looksAtClasses(List<String> lines) {
        int classes = 0;
        for (int i = 0; i < lines.size(); i++) {
            if (isFound("\\bclass \\w+( extends \\w+)? \\{$", bare(lines.get(i)))) {
                classes++;
                if (classes > 1 && !lines.get(i).startsWith("    private static ")) {
                    wrong(2, i, lines.get(i));
                }
            }
        }
        if (classes == 0 || classes > 12) {
            wrong(11, 0, classes + " classes");
        }
    }

    public static void main(String[] args) throws Exception {
        List<String> lines = Files.readAllLines(Path.of(args[0]));
        looksAtWords(lines);
        looksAtMethods(lines);
        looksAtClasses(lines);
        System.out.println("Language: " + (wrong == 0 ? "nothing found" : wrong + " lines"));
        if (wrong > 0) {
            System.exit(1);
        }
    }
}
