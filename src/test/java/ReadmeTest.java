import java.io.File;
import java.io.IOException;
import java.lang.reflect.Method;
import java.lang.reflect.Modifier;
import java.nio.file.Files;
import java.nio.file.Path;
import java.util.ArrayList;
import java.util.List;

/** README.md tells how the class is used and tested: its example holds, and it names each call and each test. */
public final class ReadmeTest {
    private static final Check CHECK = new Check("ReadmeTest");

    /** README.md's example without its comments: example() makes the same calls. */
    private static final String[] EXAMPLE = {
        "Stuntledger x = new Stuntledger();",
        "int performer = x.person(false, false);",
        "int medic = x.person(false, true);",
        "x.skill(performer, 0, 9);",
        "x.walk(performer, 50);",
        "x.walk(medic, 60);",
        "int gag = x.gag(0, performer, 50, 5);",
        "for (int i = 0; i < 4; i++) x.rehearse(gag);",
        "for (int s = 0; s < 3; s++) x.sign(gag, s);",
        "int bar = x.arm(gag);",
        "int margin = x.take(gag);",
        "int pay = x.ofPerson(performer, 9);"
    };

    public static void main(String[] args) throws IOException {
        String readme = Files.readString(Path.of("README.md"));
        CHECK.due("the example", exampleOf(readme).toString(), List.of(EXAMPLE).toString());
        example();
        namesEachCall(readme);
        namesEachTest(readme);
        CHECK.end();
    }

    private static List<String> exampleOf(String readme) {
        List<String> lines = new ArrayList<>();
        int start = readme.indexOf("```java\n");
        int end = readme.indexOf("```", start + 1);
        if (start < 0 || end < 0) {
            return lines;
        }
        for (String line : readme.substring(start + "```java\n".length(), end).split("\n")) {
            lines.add(line.replaceAll("//.*", "").trim());
        }
        return lines;
    }

    private static void example() {
        Stuntledger x = new Stuntledger();
        int performer = x.person(false, false);
        int medic = x.person(false, true);
        x.skill(performer, 0, 9);
        x.walk(performer, 50);
        x.walk(medic, 60);
        int gag = x.gag(0, performer, 50, 5);
        for (int i = 0; i < 4; i++) {
            CHECK.due("rehearse(gag)", x.rehearse(gag), i + 1);
        }
        for (int s = 0; s < 3; s++) {
            CHECK.due("sign(gag, " + s + ")", x.sign(gag, s), s + 1);
        }
        int bar = x.arm(gag);
        int margin = x.take(gag);
        int pay = x.ofPerson(performer, 9);
        CHECK.due("performer", performer, 0);
        CHECK.due("medic", medic, 1);
        CHECK.due("gag", gag, 0);
        CHECK.due("bar", bar, 0);
        CHECK.due("margin", margin, 9);
        CHECK.due("pay", pay, 100);
    }

    private static void namesEachCall(String readme) {
        for (Method m : Stuntledger.class.getDeclaredMethods()) {
            if (Modifier.isPublic(m.getModifiers())) {
                CHECK.due("README.md names " + m.getName(), readme.contains("`" + m.getName() + "`"), true);
            }
        }
    }

    private static void namesEachTest(String readme) {
        CHECK.due("README.md names .ci/run", readme.contains("\n.ci/run\n"), true);
        String[] files = new File("src/test/java").list();
        CHECK.due("there are tests", files != null && files.length > 0, true);
        for (String file : files == null ? new String[0] : files) {
            if (file.endsWith("Test.java")) {
                String name = file.substring(0, file.length() - ".java".length());
                CHECK.due("README.md names " + name, readme.contains("`" + name + "`"), true);
            }
        }
    }
}
