/** Counts wrong answers for the tests, and tells each one. */
final class Check {
    interface Call {
        int answer();
    }

    interface Act {
        void run();
    }

    private static int calls = 0;
    private static int wrong = 0;
    private static int sentences = 0;
    private static String sentence = "";
    private static int callsBefore = 0;

    private Check() {
    }

    static void due(String what, Object got, Object want) {
        calls++;
        if (!want.equals(got)) {
            wrong++;
            System.out.println((sentence.isEmpty() ? "" : "\"" + sentence + "\": ")
                    + what + " answered " + got + ", due is " + want);
        }
    }

    /** The document's words that the answers from here on test; each of them needs an answer. */
    static void sentence(String words) {
        endSentence();
        sentences++;
        sentence = words;
        callsBefore = calls;
    }

    private static void endSentence() {
        if (!sentence.isEmpty() && calls == callsBefore) {
            wrong++;
            System.out.println("\"" + sentence + "\" has no test");
        }
    }

    /**
     * The answer as a text, or the name of the very class that was thrown. What the machine throws
     * for a wrong index is told apart by its text: the class has to look before it uses an index.
     */
    static String answerOf(Call call) {
        try {
            return Integer.toString(call.answer());
        } catch (RuntimeException e) {
            boolean byMachine = e.getMessage() == null || e.getMessage().startsWith("Index ");
            return (byMachine ? "machine." : "throws.") + e.getClass().getSimpleName();
        }
    }

    static String answerOf(Act act) {
        return answerOf((Call) () -> {
            act.run();
            return 0;
        });
    }

    static void refused(String what, Act act, Class<? extends RuntimeException> want) {
        due(what, answerOf(act), "throws." + want.getSimpleName());
    }

    static void end() {
        endSentence();
        String of = sentences == 0 ? "" : ", for " + sentences + " sentences";
        System.out.println(wrong == 0 ? calls + " answers are as due" + of : wrong + " answers are not as due");
        if (wrong != 0 || calls == 0) {
            System.exit(1);
        }
    }
}
