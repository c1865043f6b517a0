import java.nio.file.Files;
import java.nio.file.Path;
import java.util.HashMap;
import java.util.HashSet;
import java.util.List;
import java.util.Map;
import java.util.Set;
import java.util.regex.Matcher;
import java.util.regex.Pattern;

/**
 * Looks for what the rules of ../shared/LANGUAGE.md rule out and a look at lines can find, in the file that it is given.
 * It leans on the file's layout: members of the class stand 4 blanks in, those of the classes inside 8.
 */
public final class Language {
    private static final Pattern HEAD = Pattern.compile("^( {4}| {8})(?! )([\\w<>\\[\\], ]*?)(\\w+)\\(([^)]*)\\) \\{$");
    private static final Set<String> FACE = Set.of("FoldedFilled", "person", "of", "work", "home", "row", "heap", "feed",
        "hall", "told", "pass", "on", "ready", "best", "when", "without", "see", "were", "can", "odds", "mean", "evening",
        "ends", "book", "looked", "judge", "image", "undo", "act", "trace", "taken", "count", "tape", "item", "read",
        "shift");

    private static final Set<String> LIBRARY = Set.of("String", "Math", "System", "Integer", "Long");
    private static final Set<String> OF_LIBRARY = Set.of("Math.min", "Math.max", "System.arraycopy", "Integer.MAX_VALUE",
        "Long.MIN_VALUE");
    private static final int MOST_DEEP = 8, MOST_FIELDS = 20;

    private static int wrong;

    private static void wrong(int rule, int line, String text) {
        wrong++;
        System.out.println("LANGUAGE.md, rule " + rule + ", line " + (line + 1) + ": " + text.strip());
    }

    private static boolean isFound(String regex, String text) {
        return Pattern.compile(regex).matcher(text).find();
    }

    /** The line without its comment and without what stands in quotes. */
    private static String bare(String line) {
        String text = line.replaceAll("'.'", "' '").replaceAll("\"[^\"]*\"", "\"\"");
        return text.strip().startsWith("*") || text.strip().startsWith("/*") ? "" : text.replaceAll("//.*", "");
    }

    private static void looksAtWords(List<String> lines) {
        for (int i = 0; i < lines.size(); i++) {
            String line = bare(lines.get(i));
            if (isFound("[^\\x20-\\x7E]", lines.get(i))) {
                wrong(3, i, lines.get(i));
            }
            if (isFound("\\b(throw|throws|try|catch|finally|synchronized|assert|volatile|native)\\b", line)) {
                wrong(6, i, line);
            }
            if (isFound("\\b(import|package|protected|Object|System\\.(?!arraycopy)\\w+|\\w+Exact|Thread)\\b|@", line)) {
                wrong(4, i, line);
            }
            if (isFound("->|::|\\bnew \\w+\\([^)]*\\) \\{", line)) {
                wrong(2, i, line);
            }
            if (isFound("\\bstatic\\b", line) && !isFound("\\(|\\bclass\\b|\\bfinal (int|long|String|int\\[\\]) ", line)) {
                wrong(5, i, line);
            }
            if (isFound("\\bwhile\\b|for \\(;|; ;|;;", line)) {
                wrong(9, i, line);
            }
        }
    }

    private static void looksAtMethods(List<String> lines) {
        Set<String> publicOnes = new HashSet<>();
        for (int i = 0; i < lines.size(); i++) {
            Matcher head = HEAD.matcher(lines.get(i));
            if (!head.matches() || isFound("^\\s*(if|for|switch|while|return|\\})", lines.get(i))) {
                continue;
            }
            String indent = head.group(1);
            String name = head.group(3);
            boolean isConstructor = head.group(2).replace("public", "").isBlank();
            boolean isPublic = head.group(2).contains("public");
            int end = i;
            while (!lines.get(end).equals(indent + "}")) {
                if (!isConstructor && isFound("\\bnew\\b", bare(lines.get(end)))) {
                    wrong(12, end, lines.get(end));
                }
                end++;
            }
            if (end - i > 60 || head.group(4).split(",").length > 7) {
                wrong(11, i, lines.get(i));
            }
            if (isPublic) {
                publicOnes.add(name);
            }
            if (isPublic != FACE.contains(name) || isPublic && indent.length() > 4) {
                wrong(1, i, lines.get(i));
            }
            if (indent.length() == 4 && !isPublic && !head.group(2).contains("private")) {
                wrong(1, i, lines.get(i));
            }
        }
        if (!publicOnes.equals(FACE)) {
            wrong(1, 0, "the face is " + publicOnes);
        }
    }

    private static void looksAtClasses(List<String> lines) {
        int classes = 0;
        for (int i = 0; i < lines.size(); i++) {
            if (isFound("\\bclass \\w+( extends \\w+)? \\{$", bare(lines.get(i)))) {
                classes++;
                if (classes > 1 && !lines.get(i).startsWith("    private static ")) {
                    wrong(2, i, lines.get(i));
                }
            }
        }
        if (classes == 0 || classes > 12) {
            wrong(11, 0, classes + " classes");
        }
    }

    /** Every name of a class must be one of the file's own, or of the library's few; so must what is used of those. */
    private static void looksAtLibrary(List<String> lines) {
        Set<String> known = new HashSet<>(LIBRARY);
        for (String line : lines) {
            Matcher own = Pattern.compile("\\bclass (\\w+)").matcher(bare(line));
            while (own.find()) {
                known.add(own.group(1));
            }
        }
        for (int i = 0; i < lines.size(); i++) {
            Matcher name = Pattern.compile("\\b[A-Z]\\w*[a-z]\\w*").matcher(bare(lines.get(i)));
            while (name.find()) {
                if (!known.contains(name.group())) {
                    wrong(4, i, lines.get(i));
                }
            }
            Matcher used = Pattern.compile("\\b(Math|System|Integer|Long)\\.\\w+").matcher(bare(lines.get(i)));
            while (used.find()) {
                if (!OF_LIBRARY.contains(used.group())) {
                    wrong(4, i, lines.get(i));
                }
            }
        }
    }

    /** Which names are called in each method; methods of one name count as one, so what a kind asks of super does not. */
    private static Map<String, Set<String>> callsOf(List<String> lines) {
        Map<String, Set<String>> calls = new HashMap<>();
        String method = "";
        for (String line : lines) {
            Matcher head = HEAD.matcher(line);
            boolean isHead = head.matches() && !isFound("^\\s*(if|for|switch|while|return|\\})", line);
            if (isHead) {
                method = head.group(3);
                calls.putIfAbsent(method, new HashSet<>());
                continue;
            }
            Matcher called = Pattern.compile("(?<!new )\\b([a-z]\\w*)\\(").matcher(bare(line));
            while (called.find() && !method.isEmpty()) {
                calls.get(method).add(called.group(1));
            }
        }
        return calls;
    }

    private static int deepest(String method, Map<String, Set<String>> calls, Set<String> open) {
        int most = 0;
        open.add(method);
        for (String called : calls.get(method)) {
            if (calls.containsKey(called) && !open.contains(called)) {
                most = Math.max(most, deepest(called, calls, open));
            }
        }
        open.remove(method);
        return most + 1;
    }

    private static void looksAtDepth(List<String> lines) {
        Map<String, Set<String>> calls = callsOf(lines);
        for (String method : calls.keySet()) {
            int deep = deepest(method, calls, new HashSet<>());
            if (deep > MOST_DEEP) {
                wrong(11, 0, method + " goes " + deep + " deep");
            }
        }
    }

    private static void looksAtFields(List<String> lines) {
        int[] fields = new int[2];
        for (int i = 0; i < lines.size(); i++) {
            String line = bare(lines.get(i));
            int inside = line.startsWith("        ") ? 1 : 0;
            if (isFound("\\bclass \\w+", line)) {
                fields[line.startsWith("    ") ? 1 : 0] = 0;
            } else if (isFound("^( {4}| {8})(?! )(?!return|static|private static|public static)[\\w\\[\\], ]+;$", line)) {
                // Lines of a method of the outer class stand 8 blanks in, too, but none is a declaration without a value.
                fields[inside] += line.split(",").length;
                if (fields[inside] > MOST_FIELDS) {
                    wrong(11, i, fields[inside] + " fields: " + line);
                }
            }
        }
    }

    public static void main(String[] args) throws Exception {
        List<String> lines = Files.readAllLines(Path.of(args[0]));
        looksAtWords(lines);
        looksAtMethods(lines);
        looksAtClasses(lines);
        looksAtLibrary(lines);
        looksAtDepth(lines);
        looksAtFields(lines);
        System.out.println("Language: " + (wrong == 0 ? "nothing found" : wrong + " lines"));
        if (wrong > 0) {
            System.exit(1);
        }
    }
}
