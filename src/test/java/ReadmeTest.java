import java.io.IOException;
import java.lang.reflect.Method;
import java.lang.reflect.Modifier;
import java.nio.file.Files;
import java.nio.file.Path;
import java.util.List;
import java.util.Set;
import java.util.TreeSet;

/** What README.md shows of the class's use compiles, and answers as README.md says. */
public final class ReadmeTest {
    private static final String RIGHT = """
        ```java
        HopRouters net = new HopRouters();
        net.link(0, 1, true);  // true: it was down
        net.ask(0, 1, 1);      // 1: so many are in the air
        net.cut(0, 9);         // nothing: it keeps 9 bytes
        net.count(6);          // throws IndexOutOfBoundsException: no such what
        ```
        ```java
        public class Small {
            public static void main(String[] args) {
                System.out.println(new HopRouters().send(3, 3));
            }
        }
        ```
        ```sh
        javac -d build/small src/main/java/HopRouters.java Small.java
        java -cp build/small Small
        ```
        ```text
        0
        ```
        """;

    private ReadmeTest() {
    }

    public static void main(String[] args) throws IOException, InterruptedException {
        List<String> shown = Files.readAllLines(Path.of("README.md"));
        Checks.same("faults of README.md", faults(shown), "");
        Checks.same("methods that it does not show", methodsNotShown(shown), "[]");
        Checks.same("it shows how all tests are run", shown.contains(ReadmeCheck.ALL_TESTS), true);
        Checks.same("that can be run", Files.isExecutable(Path.of(ReadmeCheck.ALL_TESTS)), true);
        faultsAreFound();
        Checks.end();
    }

    private static String faults(List<String> lines) throws IOException, InterruptedException {
        return String.join("\n", ReadmeCheck.faults(lines));
    }

    private static String methodsNotShown(List<String> lines) {
        Set<String> names = new TreeSet<>();
        for (Method m : HopRouters.class.getDeclaredMethods()) {
            if (Modifier.isPublic(m.getModifiers())) {
                names.add(m.getName());
            }
        }
        for (Readme.Step call : new Readme(lines).calls()) {
            names.remove(call.method());
        }
        return names.toString();
    }

    /** A check that finds nothing wrong in what is wrong would be worth nothing. */
    private static void faultsAreFound() throws IOException, InterruptedException {
        Checks.same("faults of a right one", faults(RIGHT.lines().toList()), "");
        found(RIGHT.replace("// true:", "// false:")
                .replace("// 1:", "// nothing:")
                .replace("// nothing: it keeps", "// 0: it keeps")
                .replace("throws Index", "throws ArrayIndex")
                .replace("send(3, 3)", "send(3, 4)"),
                "line 3 tells false, but the answer is true",
                "line 4 tells nothing, but the answer is 1",
                "line 5 tells 0, but the answer is nothing",
                "line 6 tells throws ArrayIndexOutOfBoundsException, but the answer is throws Index",
                "line 20 is not what is printed:\n-1\n");
        found(RIGHT.replace("cut(0, 9)", "cut(0, -1)")
                .replace("// throws IndexOutOfBoundsException: no", "// no")
                .replace("```sh", "```shell"),
                "line 5 tells nothing, but the answer is throws IllegalArgumentException",
                "line 6 tells no answer",
                "line 16 is of no kind that is checked");
        found(RIGHT.replace("net.ask(0, 1, 1)", "net.ask(0, 1)")
                .replace("send(3, 3)", "send(3)")
                .replace("\n0\n```", "\n0"),
                "what is shown does not compile",
                "line 16: exit code 1",
                "line 20: the block has no end");
    }

    private static void found(String spoilt, String... due)
            throws IOException, InterruptedException {
        String faults = faults(spoilt.lines().toList());
        for (String fault : due) {
            Checks.note(faults.contains(fault), "due is\n" + fault + "\nfound is\n" + faults);
        }
    }
}
