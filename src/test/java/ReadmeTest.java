import java.io.IOException;
import java.lang.reflect.Method;
import java.lang.reflect.Modifier;
import java.nio.file.Files;
import java.nio.file.Path;

/** README.md: its examples stand here line by line and answer what they say; it names every call, code and test. */
public final class ReadmeTest {
    private static String readme;

    public static void main(String[] args) throws IOException {
        readme = Files.readString(Path.of("README.md"));
        examplesStandInReadme(Files.readAllLines(Path.of("src/test/java/ReadmeTest.java")).toArray(new String[0]));
        choosing();
        rowsAndCodes();
        marksAndPins();
        namesEveryCall();
        namesEveryCode();
        namesEveryTest();
        Due.end();
    }

    private static void choosing() {
        // example
        DecisionArrays x = new DecisionArrays();
        int a = x.array(4, 3);                  // three ints
        x.rule(0, a, 1, 10, 10);                // their sum should be 10
        x.rule(1, a, 5, 0, 0);                  // and no two alike, which weighs more
        for (int i = 0; i < 3; i++) {
            int d = x.decide(a, i, 0, 0, 0);    // each of them is a DECISION
            x.span(d, 1, 6, 1);                 // with CANDIDATES 1 to 6
        }
        int ways = x.best();                    // 216; the array is 1, 3, 6 now
        long score = x.score();                 // 0: nothing is amiss
        // end
        Due.is("ways", ways, 216);
        Due.is("score", score, 0);
        Make.holds("the best choice", x, a, 1, 3, 6);
    }

    private static void rowsAndCodes() {
        // example
        DecisionArrays x = new DecisionArrays();
        int table = x.grid(7, 2, 2, 3, 0, 0);           // 0, with ROWS 1 and 2 of three doubles each
        int done = x.write(table, 1, 2, 0, 0, 4, 7);    // 0: an int widens to a double
        long seven = x.read(table, 1, 2, 0, 0, 7);      // the BITS of 7.0
        long none = x.read(table, 1, 2, 0, 0, 4);       // 0, since a double does not widen to an int
        int why = x.code();                             // 1
        int where = x.place(table, 1, 2, 0, 0);         // 2002: place 2 of array 2
        int outside = x.place(table, 1, 3, 0, 0);       // -2: there is no such index
        // end
        int[] got = {table, x.row(table, 0), x.row(table, 1), x.about(2, 2), done, (int) none, why, where, outside};
        int[] due = {0, 1, 2, 3, 0, 0, 1, 2002, -2};
        for (int q = 0; q < due.length; q++) {
            Due.is("rows and codes, answer " + q, got[q], due[q]);
        }
        Due.is("seven", seven, Make.d(7.0));
    }

    private static void marksAndPins() {
        // example
        DecisionArrays x = new DecisionArrays();
        int a = x.things(3, 4);                         // four THINGS of CLASS 3, null at first
        x.fill(a, 0, 4, 8, 10);                         // THING 10 is of CLASS 3
        x.mark();
        x.pin(a, 0, 0, 0, 0, true);
        int refused = x.write(a, 0, 0, 0, 0, 8, 17);    // -6: it is PINNED
        x.write(a, 1, 0, 0, 0, 8, 17);
        int left = x.back();                            // 0; all are 10 again, none is PINNED
        // end
        Due.is("refused", refused, -6);
        Due.is("left", left, 0);
        Due.is("PINNED", x.about(a, 5), 0);
        Make.holds("back", x, a, 10, 10, 10, 10);
    }

    private static void examplesStandInReadme(String[] lines) {
        int examples = 0;
        for (int from = 0; from < lines.length; from++) {
            if (lines[from].equals("        // example")) {
                examples++;
                StringBuilder example = new StringBuilder("```java\n");
                int at = from + 1;
                while (!lines[at].equals("        // end")) {
                    example.append(lines[at].substring(8)).append('\n');
                    at++;
                }
                Due.isTrue("README.md has this example: " + example, readme.contains(example + "```\n"));
            }
        }
        Due.is("README.md has no other examples", readme.split("```java\n", -1).length - 1, examples);
    }

    private static void namesEveryCall() {
        for (Method method : DecisionArrays.class.getDeclaredMethods()) {
            if (Modifier.isPublic(method.getModifiers())) {
                Due.isTrue("README.md names " + method.getName(), readme.contains("`" + method.getName() + "("));
            }
        }
    }

    private static void namesEveryCode() {
        for (int code = 1; code <= 9; code++) {
            Due.isTrue("README.md tells code " + code, readme.contains("\n| " + code + " |"));
        }
    }

    private static void namesEveryTest() throws IOException {
        try (var files = Files.list(Path.of("src/test/java"))) {
            for (Path file : files.toList()) {
                String name = file.getFileName().toString().replace(".java", "");
                Due.isTrue("README.md names " + name, readme.contains("`" + name + "`"));
            }
        }
        Due.isTrue("README.md says how to run them", readme.contains("`.ci/run`"));
    }
}
