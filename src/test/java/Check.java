import java.io.IOException;
import java.io.UncheckedIOException;
import java.nio.file.Files;
import java.nio.file.Path;
import java.util.regex.Pattern;

/** Counts wrong answers for the tests, and tells each one. */
final class Check {
    private static final Path DOCUMENT = Path.of("../shared/DOC.md");
    private static final String GAP = "[..]";

    interface Call {
        int answer();
    }

    interface Act {
        void run();
    }

    private static int calls = 0;
    private static int wrong = 0;
    private static int sentences = 0;
    private static String sentence = "";
    private static int callsBefore = 0;
    private static String document = "";

    private Check() {
    }

    static void due(String what, Object got, Object want) {
        calls++;
        if (!want.equals(got)) {
            wrong++;
            System.out.println((sentence.isEmpty() ? "" : "\"" + sentence + "\": ")
                    + what + " answered " + got + ", due is " + want);
        }
    }

    /** The document's words that the answers from here on test; each of them needs an answer. */
    static void sentence(String words) {
        begin(words, document());
    }

    /** Likewise, of one promise. */
    static void promise(int number, String words) {
        String head = "## Promise " + number + ":";
        int start = document().indexOf(head);
        int next = document().indexOf(" ## ", start + 1);
        String section = start < 0 || next < 0 ? "" : document().substring(start, next);
        begin(words, section);
    }

    private static void begin(String words, String section) {
        endSentence();
        sentences++;
        sentence = words;
        callsBefore = calls;
        if (Files.exists(DOCUMENT) && !quotes(words, section)) {
            wrong++;
            System.out.println("\"" + words + "\" is not what the document says");
        }
    }

    private static boolean quotes(String words, String section) {
        int from = 0;
        for (String part : words.split(Pattern.quote(GAP))) {
            int found = section.indexOf(part.trim(), from);
            if (found < 0) {
                return false;
            }
            from = found + part.trim().length();
        }
        return true;
    }

    /** The document in one line, so that a quote may go over its line ends. */
    private static String document() {
        if (document.isEmpty() && Files.exists(DOCUMENT)) {
            try {
                document = Files.readString(DOCUMENT).trim().replaceAll("\\s+", " ");
            } catch (IOException e) {
                throw new UncheckedIOException("the quotes cannot be looked up in " + DOCUMENT, e);
            }
        }
        return document;
    }

    private static void endSentence() {
        if (!sentence.isEmpty() && calls == callsBefore) {
            wrong++;
            System.out.println("\"" + sentence + "\" has no test");
        }
    }

    /**
     * The answer as a text, or the name of the very class that was thrown. What the machine throws
     * for a wrong index is told apart by its text: the class has to look before it uses an index.
     */
    static String answerOf(Call call) {
        try {
            return Integer.toString(call.answer());
        } catch (RuntimeException e) {
            boolean byMachine = e.getMessage() == null || e.getMessage().startsWith("Index ");
            return (byMachine ? "machine." : "throws.") + e.getClass().getSimpleName();
        }
    }

    static String answerOf(Act act) {
        return answerOf((Call) () -> {
            act.run();
            return 0;
        });
    }

    static void refused(String what, Act act, Class<? extends RuntimeException> want) {
        due(what, answerOf(act), "throws." + want.getSimpleName());
    }

    static void end() {
        endSentence();
        String of = sentences == 0 ? "" : ", for " + sentences + " sentences";
        if (sentences > 0 && !Files.exists(DOCUMENT)) {
            System.out.println("there is no " + DOCUMENT + ": the quotes were not looked up in it");
        }
        System.out.println(wrong == 0 ? calls + " answers are as due" + of : wrong + " answers are not as due");
        if (wrong != 0 || calls == 0) {
            System.exit(1);
        }
    }
}
