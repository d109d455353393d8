import java.io.IOException;
import java.nio.file.Files;
import java.nio.file.Path;

/** Counts the answers that are not as due; each test ends with end(). */
final class Due {
    private static int wrong = 0;
    private static int seen = 0;
    private static int seenBefore = 0;
    private static String sentence = "";
    private static String document = "";

    private Due() { }

    /** What follows tests this sentence, which must stand in the document word for word. */
    static void says(String words) {
        closeSentence();
        sentence = words;
        seenBefore = seen;
        if (!documentText().contains(words)) {
            wrong++;
            System.out.println("the document does not say: " + words);
        }
    }

    static String sentence() {
        return sentence;
    }

    private static void closeSentence() {
        if (!sentence.isEmpty() && seen == seenBefore) {
            wrong++;
            System.out.println("nothing tests: " + sentence);
        }
        sentence = "";
    }

    private static String documentText() {
        if (document.isEmpty()) {
            try {
                document = Files.readString(Path.of("../shared/DOC.md"));
            } catch (IOException problem) {
                System.out.println("the document can't be read: " + problem);
            }
        }
        return document;
    }

    static void is(String what, long got, long want) {
        seen++;
        if (got != want) {
            wrong++;
            System.out.println(what + " answered " + got + ", due is " + want
                + (sentence.isEmpty() ? "" : " (" + sentence + ")"));
        }
    }

    static void isTrue(String what, boolean holds) {
        is(what, holds ? 1 : 0, 1);
    }

    /** An answer that is a code, told by code() too. */
    static void fails(String what, DecisionArrays x, long got, int code) {
        is(what, got, -code);
        is(what + ", then code()", x.code(), code);
    }

    /** An answer of 0 (or another one) that has a code by code() alone. */
    static void fails(String what, DecisionArrays x, long got, long want, int code) {
        is(what, got, want);
        is(what + ", then code()", x.code(), code);
    }

    /** An answer without a code. */
    static void fine(String what, DecisionArrays x, long got, long want) {
        is(what, got, want);
        is(what + ", then code()", x.code(), 0);
    }

    static boolean anyWrong() {
        return wrong > 0;
    }

    static void end() {
        closeSentence();
        if (wrong > 0 || seen == 0) {
            System.out.println(wrong + " of " + seen + " answers are not as due");
            System.exit(1);
        }
    }
}
