import java.io.IOException;
import java.nio.file.Files;
import java.nio.file.Path;
import java.util.regex.Matcher;
import java.util.regex.Pattern;

/**
 * Tests that bear a sentence of the document as their name. A sentence must stand there word by word, its test must
 * ask something, and no word of a part may be without a test: so a document that changes is noticed, too.
 */
abstract class Sentences extends Checks {
    static final int TERMS = 0, WHAT_IT_IS = 29;
    private static final int PARTS = 30;
    private static final Path DOCUMENT = Path.of("../shared/DOC.md");
    private static final int[] BORDERS = {Integer.MIN_VALUE, Integer.MAX_VALUE};
    private static final String[] parts = new String[PARTS];
    private static final boolean[][] tested = new boolean[PARTS][];

    static void readDocument() throws IOException {
        String text = Files.readString(DOCUMENT).replaceAll("(?m)^```\\w*$", "").replaceAll("(?m)^==== \\d", "");
        for (int part = 0; part < PARTS; part++) {
            Matcher m = Pattern.compile("(?s)" + headingOf(part) + "(.*?)(\n## |$)").matcher(text);
            if (!m.find()) {
                throw new IOException("the document has no part " + part);
            }
            parts[part] = m.group(1).replaceAll("\\s+", " ").trim();
            tested[part] = new boolean[parts[part].length()];
        }
    }

    private static String headingOf(int part) {
        if (part == TERMS) {
            return "## Terms\n";
        }
        return part == WHAT_IT_IS ? "## What it is\n" : "## Promise " + part + ": [^\n]*\n\n`[^`]*`:";
    }

    static void sentence(int part, String words, Runnable test) {
        about(part == TERMS || part == WHAT_IT_IS ? words : "promise " + part + ": " + words);
        int at = parts[part].indexOf(words);
        if (at < 0) {
            fault("the document does not say this");
        }
        for (int i = Math.max(at, 0); at >= 0 && i < at + words.length(); i++) {
            tested[part][i] = true;
        }
        int before = askedSoFar();
        try {
            test.run();
        } catch (RuntimeException e) {
            fault("a call threw " + e);
        }
        if (askedSoFar() == before) {
            fault("the test asks nothing");
        }
        about("");
    }

    /** No letter or figure of these parts is without a test, but for those that only tell what the interface says. */
    static void allTested(int first, int last) {
        for (int part = first; part <= last; part++) {
            StringBuilder left = new StringBuilder();
            for (int i = 0; i < parts[part].length(); i++) {
                left.append(tested[part][i] ? ' ' : parts[part].charAt(i));
            }
            String words = left.toString().replaceAll("Ahead of the calls [^-]* says: ---- \\d( [a-z ,]+\\.)?", "");
            if (words.matches(".*\\w.*")) {
                fault("part " + part + " has words without a test: " + words.replaceAll("\\s+", " ").trim());
            }
        }
    }

    /** Numbers outside of those from least to most: next to them and as far as can be. */
    static int[] outside(int least, int most) {
        return new int[] {least - 1, most + 1, BORDERS[0], BORDERS[1]};
    }
}
