import java.io.IOException;
import java.nio.file.Files;
import java.nio.file.Path;
import java.util.ArrayList;
import java.util.List;

/** The example of README.md: its lines are those below, and each does what stands beside it. */
public final class UseTest {
    private static final String[] LINES = {
        "VeiledFiles files = new VeiledFiles();",
        "files.start(12345, -99);",
        "int notes = files.create(7L);",
        "files.write(notes, 0, 41);",
        "files.write(notes, 1, 42);",
        "int word = files.read(notes, 1);",
        "files.idle();",
        "int leaf = files.trace(0, 1);",
        "int stored = files.sealed(1, 0, 24);",
        "files.alter(1, 0, 24, stored + 1);",
        "files.read(notes, 1);",
    };

    private static final String[] CALLS = {
        "new VeiledFiles()", "start(seed, key)", "create(name)", "find(name)", "remove(file)",
        "size(file)", "write(file, i, v)", "read(file, i)", "idle()", "sealed(tree, bucket, i)",
        "alter(tree, bucket, i, v)", "counter(tree, bucket)", "trace(k, what)", "stash(tree)",
        "state(what)",
    };

    public static void main(String[] args) throws IOException {
        List<String> readme = Files.readAllLines(Path.of("README.md"));
        Due due = new Due();
        due.is("the example's lines", String.join("\n", exampleOf(readme)),
                String.join("\n", LINES));
        due.is("the table's calls", String.join("\n", callsOf(readme)), String.join("\n", CALLS));
        theExampleHolds(due);
        due.end();
    }

    /** The statements of the first piece of Java, without what stands beside them. */
    private static List<String> exampleOf(List<String> readme) {
        List<String> lines = new ArrayList<>();
        int first = readme.indexOf("```java") + 1;
        for (int n = first; n < readme.size() && !readme.get(n).equals("```"); n++) {
            String statement = readme.get(n).split("//")[0].strip();
            if (!statement.isEmpty()) {
                lines.add(statement);
            }
        }
        return lines;
    }

    /** The first cells of the rows below the table's head. */
    private static List<String> callsOf(List<String> readme) {
        List<String> calls = new ArrayList<>();
        int first = readme.indexOf("| call | what it does or answers | if it can't |") + 2;
        for (int n = first; n < readme.size() && readme.get(n).startsWith("| `"); n++) {
            calls.add(readme.get(n).split("`")[1]);
        }
        return calls;
    }

    private static void theExampleHolds(Due due) {
        VeiledFiles files = new VeiledFiles();
        files.start(12345, -99);
        int notes = files.create(7L);
        due.is("create(7)", notes, 0);
        files.write(notes, 0, 41);
        due.is("size(0) after a write right behind the end", files.size(notes), 1);
        files.write(notes, 1, 42);
        due.is("size(0) after another", files.size(notes), 2);
        due.is("read(0, 1)", files.read(notes, 1), 42);
        files.idle();
        due.is("size(0) after idle()", files.size(notes), 2);
        int leaf = files.trace(0, 1);
        due.is("trace(0, 1) is a leaf", leaf >= 0 && leaf < 32, true);
        int stored = files.sealed(1, 0, 24);
        due.is("alter(1, 0, 24)", files.alter(1, 0, 24, stored + 1), true);
        due.illegalState("read(0, 1), the uppermost bucket being spoilt",
                () -> files.read(notes, 1));
        due.is("state(3)", files.state(3), 1);
    }
}
