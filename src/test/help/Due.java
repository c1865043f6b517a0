import java.nio.file.Files;
import java.nio.file.Path;
import java.util.ArrayList;
import java.util.Arrays;
import java.util.List;

/**
 * What the tests of the document's sentences share: says(..) quotes the sentence that is tested from there on, due(..)
 * looks at one answer. In the end all quotes are looked for in the document, so that none is a sentence of the test's own.
 */
public final class Due {
    public static final int NONE = -1, BAD = -2, STATE = -3, FULL = -4, NOT_ANY = -5, NO_PERSON = -1001;
    public static final int NOTHING = -11, CAST = -12, PLACE = -13, SIZE = -14;
    public static final long NO = Long.MIN_VALUE;
    public static final int BIG = Integer.MAX_VALUE, SMALL = Integer.MIN_VALUE;

    private static final List<String> QUOTES = new ArrayList<>();
    private static int passed, failed;

    private Due() {
    }

    public static void says(String words) {
        QUOTES.add(words);
    }

    public static void due(String call, long got, long want) {
        if (got == want) {
            passed++;
        } else {
            failed++;
            System.out.println("\"" + QUOTES.get(QUOTES.size() - 1) + "\": " + call + " answered " + got + ", due is " + want);
        }
    }

    public static FoldedFilled fresh() {
        return new FoldedFilled();
    }

    public static void feeds(FoldedFilled x, String text) {
        for (char sign : text.toCharArray()) {
            x.feed(sign);
        }
    }

    public static int hall(FoldedFilled x, String text) {
        feeds(x, text);
        return x.hall();
    }

    /** So many of one kind, each with v 0, who stamp. */
    public static FoldedFilled stampers(int many, int kind) {
        FoldedFilled x = fresh();
        for (int p = 0; p < many; p++) {
            x.person(kind, 0, 3);
        }
        return x;
    }

    /** One who stamps one letter a minute, of more than can go. */
    public static FoldedFilled slow() {
        FoldedFilled x = stampers(1, 0);
        hall(x, "slack 2 p=0");
        x.heap(3, 9999);
        return x;
    }

    public static void passTo9999(FoldedFilled x) {
        for (int i = 0; i < 166; i++) {
            x.pass(60);
        }
        x.pass(39);
    }

    private static String onOneLine(String text) {
        return text.replaceAll("\\s+", " ");
    }

    /** args: the class's file, the document, and perhaps a word: then what no quote holds is printed. */
    public static void ends(String test, String[] args) throws Exception {
        if (args.length > 1 && Files.isReadable(Path.of(args[1]))) {
            looksForQuotes(onOneLine(Files.readString(Path.of(args[1]))), args.length > 2);
        } else {
            System.out.println(test + ": there is no document, so its quotes are not looked for");
        }
        System.out.println(test + ": " + passed + " answers as due, " + failed + " not");
        if (failed > 0) {
            System.exit(1);
        }
    }

    private static void looksForQuotes(String document, boolean isRestPrinted) {
        boolean[] isQuoted = new boolean[document.length()];
        for (String words : QUOTES) {
            String quote = onOneLine(words);
            int at = document.indexOf(quote);
            if (at < 0) {
                failed++;
                System.out.println("the document does not say \"" + quote + "\"");
            }
            for (; at >= 0; at = document.indexOf(quote, at + 1)) {
                Arrays.fill(isQuoted, at, at + quote.length(), true);
            }
        }
        if (isRestPrinted) {
            printsRest(document, isQuoted);
        }
    }

    private static void printsRest(String document, boolean[] isQuoted) {
        StringBuilder rest = new StringBuilder();
        for (int i = 0; i < isQuoted.length; i++) {
            if (!isQuoted[i]) {
                rest.append(document.charAt(i));
            } else if (rest.length() > 0 && rest.charAt(rest.length() - 1) != '\n') {
                rest.append('\n');
            }
        }
        System.out.println(rest);
    }
}
