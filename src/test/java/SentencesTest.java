import java.io.IOException;
import java.nio.charset.StandardCharsets;
import java.nio.file.Files;
import java.nio.file.Path;
import java.util.ArrayList;
import java.util.LinkedHashMap;
import java.util.List;
import java.util.Map;

/**
 * Each sentence of the document has a run that tests it: a run names what it tests by its quotes,
 * which must stand in the terms or in the part of one of the run's promises. Looked for are the
 * sentences of the terms, their clauses between semicolons each alone, and in each promise what the
 * call does, returns and throws, and the parameters with a number in them.
 */
public final class SentencesTest {
    private static final Path DOCUMENT = Path.of("../shared/DOC.md");
    private static final String TERMS = "Terms";
    /** Names of paragraphs, which say nothing themselves. */
    private static final int NAME_LENGTH = 12;

    private final Map<String, List<String>> parts = new LinkedHashMap<>();
    private final Map<String, List<String>> quotes = new LinkedHashMap<>();
    private int right;
    private int wrong;

    public static void main(String[] args) throws IOException {
        SentencesTest test = new SentencesTest();
        test.readDocument();
        for (Runs.Run run : Runs.all()) {
            test.takeQuotes(run);
        }
        test.askForSentences();
        System.out.println("SentencesTest: " + test.right + " passed, " + test.wrong + " failed");
        System.exit(test.wrong == 0 ? 0 : 1);
    }

    /** The paragraphs of each part, each as one line. */
    private void readDocument() throws IOException {
        List<String> paragraphs = new ArrayList<>();
        boolean isNew = true;
        for (String line : Files.readAllLines(DOCUMENT, StandardCharsets.UTF_8)) {
            String row = line.trim();
            if (row.startsWith("## ")) {
                paragraphs = new ArrayList<>();
                String name = row.substring(3);
                parts.put(name.contains(":") ? name.substring(0, name.indexOf(':')) : name, paragraphs);
                isNew = true;
            } else if (row.isEmpty()) {
                isNew = true;
            } else if (isNew && !isBroken(paragraphs, row) || row.startsWith("- ")) {
                paragraphs.add(row);
                isNew = false;
            } else if (!paragraphs.isEmpty()) {
                paragraphs.set(paragraphs.size() - 1, paragraphs.get(paragraphs.size() - 1) + " " + row);
                isNew = false;
            }
        }
    }

    /** An empty line stands before some lines that begin with a number, amid a sentence. */
    private static boolean isBroken(List<String> paragraphs, String row) {
        return !paragraphs.isEmpty() && Character.isDigit(row.charAt(0))
            && paragraphs.get(paragraphs.size() - 1).endsWith(";");
    }

    private void takeQuotes(Runs.Run run) {
        for (String quote : run.quotes) {
            boolean isThere = takeQuote(TERMS, quote);
            for (int promise : run.promises) {
                isThere |= takeQuote("Promise " + promise, quote);
            }
            isThere |= takeQuote("What it is", quote);
            check(isThere, run.head + ": the document does not say \"" + quote + "\"");
        }
    }

    private boolean takeQuote(String part, String quote) {
        for (String paragraph : parts.getOrDefault(part, List.of())) {
            if (paragraph.contains(quote)) {
                quotes.computeIfAbsent(part, key -> new ArrayList<>()).add(quote);
                return true;
            }
        }
        return false;
    }

    private void askForSentences() {
        for (Map.Entry<String, List<String>> part : parts.entrySet()) {
            boolean isAsked = part.getKey().equals(TERMS) || part.getKey().startsWith("Promise ");
            for (String paragraph : isAsked ? part.getValue() : List.<String>of()) {
                if (paragraph.startsWith("- ") && !paragraph.matches(".*: .*\\d.*")) {
                    continue;
                }
                String words = paragraph.startsWith("`") ? paragraph.substring(paragraph.indexOf("`: ") + 3) : paragraph;
                for (String clause : words.split("(?<=[.;]) ")) {
                    if (clause.length() > NAME_LENGTH || clause.contains(" ")) {
                        check(isQuoted(part.getKey(), clause), part.getKey() + ": no run tests \"" + clause + "\"");
                    }
                }
            }
        }
    }

    /** Whether a quote holds the clause, or the clause a quote. */
    private boolean isQuoted(String part, String clause) {
        for (String quote : quotes.getOrDefault(part, List.of())) {
            if (quote.contains(clause) || clause.contains(quote)) {
                return true;
            }
        }
        return false;
    }

    private void check(boolean holds, String what) {
        if (holds) {
            right++;
        } else {
            wrong++;
            System.out.println(what);
        }
    }
}
