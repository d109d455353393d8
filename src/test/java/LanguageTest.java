import java.io.IOException;
import java.lang.reflect.Field;
import java.lang.reflect.Method;
import java.lang.reflect.Modifier;
import java.nio.file.Files;
import java.nio.file.Path;
import java.util.Arrays;
import java.util.HashSet;
import java.util.Map;
import java.util.Set;
import java.util.TreeMap;
import java.util.TreeSet;
import java.util.regex.Matcher;
import java.util.regex.Pattern;

/** The document's public face, and what of LANGUAGE.md can be seen from outside or by the source's words. */
public final class LanguageTest {
    private static final String[] FACE = {
        "int array(int,int)", "int things(int,int)", "int rows(int,int)", "int grid(int,int,int,int,int,int)",
        "int about(int,int)", "int row(int,int)", "int setRow(int,int,int)", "long read(int,int,int,int,int,int)",
        "int write(int,int,int,int,int,int,long)", "int place(int,int,int,int,int)",
        "int pin(int,int,int,int,int,boolean)", "int column(int,int)", "int code()", "int widens(int,int)",
        "int fill(int,int,int,int,long)", "int move(int,int,int,int,int)", "int copy(int,int)", "int deep(int)",
        "int sort(int,int,int)", "int search(int,long)", "int same(int,int)", "int hash(int)",
        "int decide(int,int,int,int,int)", "int candidate(int,long)", "int span(int,long,long,long)",
        "int choose(int,int)", "int decision(int,int)", "long candidateOf(int,int)",
        "int rule(int,int,int,long,long)", "long amount(int)", "long score()", "int best()", "int mark()",
        "int back()", "int count(int)"
    };

    public static void main(String[] args) throws IOException {
        face();
        for (Class<?> inside : DecisionArrays.class.getDeclaredClasses()) {
            classKeepsRules(inside);
            Due.isTrue("static: " + inside, Modifier.isStatic(inside.getModifiers()));
        }
        classKeepsRules(DecisionArrays.class);
        Due.isTrue("at most 12 classes", DecisionArrays.class.getDeclaredClasses().length < 12);
        String source = Files.readString(Path.of("src/main/java/DecisionArrays.java"));
        String code = source.replaceAll("(?s)/\\*.*?\\*/", "").replaceAll("//[^\n]*", "");
        words(code);
        callDepth(code);
        Due.end();
    }

    private static void face() {
        Set<String> open = new TreeSet<>();
        for (Method method : DecisionArrays.class.getDeclaredMethods()) {
            if (!Modifier.isPrivate(method.getModifiers())) {
                String[] types = new String[method.getParameterCount()];
                Arrays.setAll(types, q -> method.getParameterTypes()[q].getName());
                open.add(method.getReturnType() + " " + method.getName() + "(" + String.join(",", types) + ")");
                Due.isTrue("public: " + method, Modifier.isPublic(method.getModifiers()));
            }
        }
        Due.isTrue("the face is that of the document: " + open, open.equals(new TreeSet<>(Arrays.asList(FACE))));
        int modifiers = DecisionArrays.class.getModifiers();
        Due.isTrue("public and final", Modifier.isPublic(modifiers) && Modifier.isFinal(modifiers));
        Due.is("constructors", DecisionArrays.class.getDeclaredConstructors().length, 1);
        for (Field field : DecisionArrays.class.getDeclaredFields()) {
            Due.isTrue("private: " + field, Modifier.isPrivate(field.getModifiers()));
        }
    }

    private static void classKeepsRules(Class<?> type) {
        Set<String> names = new HashSet<>();
        for (String line : FACE) {
            names.add(line.substring(line.indexOf(' ') + 1, line.indexOf('(')));
        }
        for (Method method : type.getDeclaredMethods()) {
            Due.isTrue("parameters: " + method, method.getParameterCount() <= 7);
            Due.isTrue("a name of its own: " + method,
                Modifier.isPublic(method.getModifiers()) || !names.contains(method.getName()));
        }
        int fields = 0;
        for (Field field : type.getDeclaredFields()) {
            boolean fixed = Modifier.isStatic(field.getModifiers());
            Due.isTrue("static means final: " + field, !fixed || Modifier.isFinal(field.getModifiers()));
            fields += fixed ? 0 : 1;
        }
        Due.isTrue("at most 20 fields: " + type, fields <= 20);
    }

    private static void words(String code) {
        String[] barred = {
            "throw", "throws", "try", "catch", "synchronized", "assert", "import", "package", "float", "double",
            "protected", "native", "volatile", "transient", "Object", "Exact", "->", "::", "var", "equals", "hashCode"
        };
        for (String word : barred) {
            boolean sign = !Character.isLetter(word.charAt(0));
            Matcher found = Pattern.compile(sign ? Pattern.quote(word) : "\\b" + word + "\\b").matcher(code);
            Due.isTrue("without " + word, !found.find());
        }
        int length = 0;
        for (String line : code.split("\n")) {
            boolean outer = line.matches(" {4}\\}") || line.matches(" {8}\\}");
            length = outer || line.isBlank() ? 0 : length + 1;
            Due.isTrue("methods stay short: " + line, length <= 60);
            Due.isTrue("lines stay short: " + line, line.length() <= 120);
        }
    }

    /** Methods of one name are taken for one: what is found may be too deep, never too shallow. */
    private static void callDepth(String code) {
        Map<String, String> bodies = new TreeMap<>();
        String name = "";
        Pattern head = Pattern.compile(" {4}(?: {4})?[a-z][A-Za-z ]* (\\w+)\\([^()]*\\) \\{");
        for (String line : code.split("\n")) {
            Matcher found = head.matcher(line);
            if (found.matches()) {
                name = found.group(1);
            } else if (!name.isEmpty()) {
                bodies.merge(name, line + "\n", String::concat);
            }
        }
        Map<String, Set<String>> calls = new TreeMap<>();
        bodies.forEach((method, body) -> {
            Set<String> called = new TreeSet<>();
            Matcher found = Pattern.compile("(\\w+)\\(").matcher(body);
            while (found.find()) {
                if (bodies.containsKey(found.group(1))) {
                    called.add(found.group(1));
                }
            }
            calls.put(method, called);
        });
        Due.isTrue("the source's methods are found: " + calls.keySet(), calls.size() > FACE.length);
        for (String line : FACE) {
            String method = line.substring(line.indexOf(' ') + 1, line.indexOf('('));
            Due.isTrue("found: " + method, calls.containsKey(method));
            Due.isTrue("calls go at most eight deep from " + method,
                calls.containsKey(method) && deepest(method, calls, new HashSet<>()) <= 8);
        }
    }

    /** Methods that stand open already are left out: recursion has a guard of its own. */
    private static int deepest(String method, Map<String, Set<String>> calls, Set<String> open) {
        open.add(method);
        int deepest = 0;
        for (String next : calls.get(method)) {
            if (!open.contains(next)) {
                deepest = Math.max(deepest, deepest(next, calls, open));
            }
        }
        open.remove(method);
        return deepest + 1;
    }
}
