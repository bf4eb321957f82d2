import java.io.File;
import java.io.IOException;
import java.net.URL;
import java.net.URLClassLoader;
import java.nio.file.Files;
import java.nio.file.Path;
import java.util.ArrayList;
import java.util.Collections;
import java.util.List;
import java.util.regex.Matcher;
import java.util.regex.Pattern;

/** README.md's example compiles and answers what its remarks say, and its list of the tests is whole. */
public final class ReadmeTest {
    /** A call with what it answers: "war.land(0);  // 7: acres". */
    private static final Pattern CALL = Pattern.compile("(war\\..*\\));\\s+// ([\\w.-]+): .*");
    private static final int MOST_CALLS = 512;

    public static void main(String[] args) throws Exception {
        String readme = Files.readString(Path.of("README.md"));
        dueExample(partBetween(readme, "```java\n", "```"));
        dueRefusals(readme);
        dueListOfTests(readme);
        Checks.end();
    }

    private static String partBetween(String text, String head, String tail) {
        int from = text.indexOf(head);
        int to = text.indexOf(tail, from + head.length());
        Checks.due("'" + head.strip() + "' in README.md", from >= 0 && to >= 0 ? 1 : 0, 1);
        return from >= 0 && to >= 0 ? text.substring(from + head.length(), to) : "";
    }

    // ---- the example

    private static void dueExample(String example) throws Exception {
        List<String> calls = new ArrayList<>();
        StringBuilder body = new StringBuilder();
        for (String line : example.split("\n")) {
            Matcher call = CALL.matcher(line);
            if (call.matches()) {
                calls.add(call.group(1));
                body.append("all.add(new long[] {").append(call.group(1)).append(", ").append(call.group(2)).append("});\n");
            } else {
                // each call outside the loop tells what it answers
                Checks.due("an answer beside " + line, line.startsWith("war.") ? 0 : 1, 1);
                body.append(line).append('\n');
            }
        }
        List<long[]> answers = answersOf(body.toString());
        Checks.due("calls of the example", answers.size(), calls.size());
        Checks.due("it has calls, and not too many", calls.size() > 30 && calls.size() < MOST_CALLS - 30 ? 1 : 0, 1);
        for (int k = 0; k < answers.size(); k++) {
            Checks.due("README.md: " + calls.get(k), answers.get(k)[0], answers.get(k)[1]);
        }
    }

    /** Compiles the example's lines and runs them: for each call what it answered and what is told. */
    @SuppressWarnings("unchecked")
    private static List<long[]> answersOf(String body) throws Exception {
        Path place = Files.createTempDirectory("readme");
        Path source = place.resolve("ReadmeExample.java");
        try {
            Files.writeString(source, "public final class ReadmeExample {\n"
                + "public static java.util.List<long[]> answers() {\n"
                + "java.util.List<long[]> all = new java.util.ArrayList<>();\n" + body + "return all;\n}\n}\n");
            String path = System.getProperty("java.class.path");
            int rc = new ProcessBuilder("javac", "-encoding", "UTF-8", "-cp", path, "-d", place.toString(), source.toString())
                .inheritIO().start().waitFor();
            Checks.due("README.md's example compiles", rc, 0);
            if (rc != 0) {
                return Collections.emptyList();
            }
            try (URLClassLoader loader = new URLClassLoader(new URL[] {place.toUri().toURL()})) {
                return (List<long[]>) loader.loadClass("ReadmeExample").getMethod("answers").invoke(null);
            }
        } finally {
            deleteAll(place);
        }
    }

    private static void deleteAll(Path place) throws IOException {
        File[] files = place.toFile().listFiles();
        for (File file : files == null ? new File[0] : files) {
            Files.delete(file.toPath());
        }
        Files.delete(place);
    }

    // ---- what is told beside it

    private static void dueRefusals(String readme) {
        dueTold(readme, "UNKNOWN", TableWar.UNKNOWN);
        dueTold(readme, "OUTSIDE", TableWar.OUTSIDE);
        dueTold(readme, "STATE", TableWar.STATE);
        dueTold(readme, "FULL", TableWar.FULL);
        dueTold(readme, "NONE", TableWar.NONE);
        dueRow(readme, Checks.NULL, "fault 1, NULL");
        dueRow(readme, Checks.CAST, "fault 2, CAST");
        dueRow(readme, Checks.INDEX, "fault 3, INDEX");
        dueRow(readme, Checks.SIZE, "fault 4, SIZE");
    }

    private static void dueTold(String readme, String name, int value) {
        Checks.due("README.md tells " + name, readme.contains("`" + name + "` (" + value + ")") ? 1 : 0, 1);
    }

    private static void dueRow(String readme, int answer, String fault) {
        Checks.due("README.md tells " + fault, readme.contains("| " + answer + " | " + fault + ": ") ? 1 : 0, 1);
    }

    private static void dueListOfTests(String readme) {
        String list = readme.substring(Math.max(0, readme.indexOf("## How to run its tests")));
        File[] files = Path.of("src/test/java").toFile().listFiles();
        List<String> names = new ArrayList<>();
        for (File file : files == null ? new File[0] : files) {
            String name = file.getName().replace(".java", "");
            names.add(name);
            Checks.due("README.md lists " + name, list.contains("`" + name + "`") ? 1 : 0, 1);
        }
        Matcher listed = Pattern.compile("`(\\w*Test|Checks|Run)`").matcher(list);
        while (listed.find()) {
            Checks.due(listed.group(1) + " is there", names.contains(listed.group(1)) ? 1 : 0, 1);
        }
    }
}
