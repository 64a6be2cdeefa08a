import java.io.IOException;
import java.nio.file.Files;
import java.nio.file.Path;
import java.util.Map;
import java.util.TreeMap;
import java.util.regex.Matcher;
import java.util.regex.Pattern;

/** Some of the rules of ../shared/LANGUAGE.md, as far as the text of the class shows them. */
public final class LanguageTest {
    private static final Check CHECK = new Check("LanguageTest");

    /** A pattern that may not stand in the code, and the rule that forbids it. */
    private static final String[][] FORBIDDEN = {
        {"\\bpackage\\b", "1"}, {"\\bimport\\b", "4"}, {"\\bprotected\\b", "1"},
        {"->", "2"}, {"::", "2"}, {"\\bNaN\\b", "3"}, {"\\bfloat\\b", "3"},
        {"static\\s*\\{", "5"}, {"\\btry\\b", "6"}, {"\\bcatch\\b", "6"}, {"\\bfinally\\b", "6"},
        {"\\bsynchronized\\b", "6"}, {"\\bassert\\b", "6"}, {"\\bequals\\b", "6"}, {"\\bhashCode\\b", "6"},
        {"\\btoString\\b", "6"}, {"\\bextends\\b", "6"}, {"\"\\s*\\+|\\+\\s*\"", "10"},
        {"\\bSystem\\b", "13"}, {"\\bThread\\b", "13"}, {"\\bRandom\\b", "13"}, {"\\brandom\\b", "13"},
        {"[^\\x00-\\x7f]", "4"}
    };

    public static void main(String[] args) throws IOException {
        Path file = Path.of(args.length > 0 ? args[0] : "src/main/java/Stuntledger.java");
        String code = withoutComments(Files.readString(file));
        for (String[] rule : FORBIDDEN) {
            Matcher found = Pattern.compile(rule[0]).matcher(code);
            CHECK.due("rule " + rule[1] + ", " + rule[0], found.find() ? found.group() : "", "");
        }
        thrown(code);
        made(code);
        methodsAreShort(code);
        callsAreShallow(code);
        CHECK.end();
    }

    private static String withoutComments(String text) {
        return Pattern.compile("/\\*.*?\\*/", Pattern.DOTALL).matcher(text).replaceAll("").replaceAll("//[^\\n]*", "");
    }

    /** Rule 6: each throw makes an exception of the document's, with a written text. */
    private static void thrown(String code) {
        Matcher m = Pattern.compile("throw\\b[^;]*;").matcher(code);
        while (m.find()) {
            boolean isPlain = m.group().matches(
                    "throw new (IndexOutOfBounds|IllegalArgument|IllegalState)Exception\\(\"[^\"]*\"\\);");
            CHECK.due("rule 6, " + m.group(), isPlain, true);
        }
    }

    /** Rule 12: nothing but exceptions is made outside the constructor and the fields. */
    private static void made(String code) {
        Matcher m = Pattern.compile("\\bnew (\\w+)([\\[(])").matcher(code);
        int constructor = code.indexOf("public Stuntledger()");
        int firstMethod = code.indexOf("public int person(");
        while (m.find()) {
            boolean isAhead = m.start() < firstMethod && constructor > 0;
            CHECK.due("rule 12, " + m.group(), isAhead || m.group(1).endsWith("Exception"), true);
        }
    }

    /** Rule 11: a method has some sixty lines at the most. */
    private static void methodsAreShort(String code) {
        int start = 0;
        String[] lines = code.split("\n");
        for (int i = 0; i < lines.length; i++) {
            if (lines[i].matches("    (public|private).*")) {
                start = i;
            }
            if (lines[i].equals("    }")) {
                CHECK.due("rule 11, " + lines[start].trim(), i - start <= 60, true);
            }
        }
    }

    /** Rule 11: calls go eight deep at the most; rule 8: none comes back to itself. */
    private static void callsAreShallow(String code) {
        Map<String, String> bodies = new TreeMap<>();
        Matcher m = Pattern.compile("\n    (?:public|private)[^;={]*?(\\w+)\\([^;{]*\\{\n(.*?)\n    \\}", Pattern.DOTALL)
                .matcher(code);
        while (m.find()) {
            bodies.put(m.group(1), m.group(2));
        }
        CHECK.due("methods found", bodies.size() > 60, true);
        for (String name : bodies.keySet()) {
            int depth = depth(name, bodies, 1);
            CHECK.due("rule 11, calls of " + name + "() go " + depth + " deep", depth <= 8, true);
        }
    }

    private static int depth(String name, Map<String, String> bodies, int at) {
        int deepest = at;
        Matcher m = Pattern.compile("\\b(\\w+)\\(").matcher(bodies.get(name));
        while (m.find() && at < 100) {
            if (bodies.containsKey(m.group(1)) && !isMadeOrForeign(bodies.get(name), m.start())) {
                deepest = Math.max(deepest, depth(m.group(1), bodies, at + 1));
            }
        }
        return deepest;
    }

    private static boolean isMadeOrForeign(String body, int at) {
        return body.startsWith("new ", Math.max(0, at - 4)) || at > 0 && body.charAt(at - 1) == '.';
    }
}
