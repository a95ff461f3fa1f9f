import java.io.IOException;
import java.lang.reflect.Method;
import java.nio.file.Files;
import java.nio.file.Path;
import java.nio.file.StandardCopyOption;
import java.util.ArrayList;
import java.util.List;
import java.util.stream.Stream;

/** Does what a README shows, in a copy of the sources, and finds where it does not hold. */
final class ReadmeCheck {
    /** The project's own run of all tests: it cannot be given inside of itself. */
    static final String ALL_TESTS = ".ci/run";

    private static final Path WORKSHOP = Path.of("build", "readme");

    /** Errors are kept apart: a machine's own remarks there are no part of what is printed. */
    private record Ended(int code, String printed, String errors) {
    }

    private final Readme readme;
    private final List<String> faults = new ArrayList<>();

    private ReadmeCheck(Readme readme) {
        this.readme = readme;
    }

    static List<String> faults(List<String> lines) throws IOException, InterruptedException {
        ReadmeCheck check = new ReadmeCheck(new Readme(lines));
        check.faults.addAll(check.readme.faults());
        copySources();
        check.checkCalls();
        check.writePrograms();
        check.checkCommands();
        return check.faults;
    }

    private static void copySources() throws IOException {
        List<Path> files;
        try (Stream<Path> found = Files.walk(Path.of("src"))) {
            files = found.filter(Files::isRegularFile).toList();
        }
        for (Path file : files) {
            Path copy = WORKSHOP.resolve(file);
            Files.createDirectories(copy.getParent());
            Files.copy(file, copy, StandardCopyOption.REPLACE_EXISTING);
        }
    }

    private void checkCalls() throws IOException, InterruptedException {
        Files.writeString(WORKSHOP.resolve("Shown.java"), programOfCalls());
        Ended compiled = run("javac -Xlint:all -Werror -d build/shown"
                + " src/main/java/HopRouters.java Shown.java");
        if (compiled.code() != 0) {
            faults.add("what is shown does not compile:\n" + compiled.errors());
            return;
        }
        List<Readme.Step> calls = readme.calls();
        List<String> answers = run("java -cp build/shown Shown").printed().lines().toList();
        if (answers.size() != calls.size()) {
            faults.add(calls.size() + " calls are shown, but the answers are " + answers);
            return;
        }
        for (int i = 0; i < calls.size(); i++) {
            Readme.Step call = calls.get(i);
            if (!call.told().equals(answers.get(i))) {
                faults.add("line " + call.line() + " tells " + call.told()
                        + ", but the answer is " + answers.get(i) + ": " + call.code());
            }
        }
    }

    /**
     * Each block twice: as it stands there, only to be compiled, and with each call's answer
     * printed.
     */
    private String programOfCalls() {
        StringBuilder shown = new StringBuilder();
        StringBuilder asked = new StringBuilder();
        for (Readme.Block block : readme.blocksOfCalls()) {
            shown.append("  static void shownInLine").append(block.first()).append("() {\n");
            shown.append(block.text()).append("  }\n");
            asked.append("    {\n");
            for (Readme.Step step : Readme.steps(block)) {
                asked.append(step.isCall() ? askFor(step) : step.code()).append('\n');
            }
            asked.append("    }\n");
        }
        return "public final class Shown {\n" + shown
                + "  static void tell(Object answer) {\n    System.out.println(answer);\n  }\n"
                + "  public static void main(String[] args) {\n" + asked + "  }\n}\n";
    }

    private static String askFor(Readme.Step call) {
        String ask = answersNothing(call.method())
                ? call.code() + "; tell(\"nothing\");"
                : "tell(" + call.code() + ");";
        return "try { " + ask + " } catch (RuntimeException e) {"
                + " tell(\"throws \" + e.getClass().getSimpleName()); }";
    }

    private static boolean answersNothing(String method) {
        for (Method m : HopRouters.class.getDeclaredMethods()) {
            if (m.getName().equals(method) && m.getReturnType() == void.class) {
                return true;
            }
        }
        return false;
    }

    private void writePrograms() throws IOException {
        for (Readme.Block block : readme.blocks()) {
            if (block.kind().equals("java") && !block.showsCalls()) {
                Files.writeString(WORKSHOP.resolve(block.program() + ".java"), block.text());
            }
        }
    }

    /** A block of text right behind one of commands is what they print. */
    private void checkCommands() throws IOException, InterruptedException {
        for (int i = 0; i < readme.blocks().size(); i++) {
            Readme.Block block = readme.blocks().get(i);
            boolean last = i + 1 == readme.blocks().size();
            if (block.kind().equals("sh")) {
                if (!block.text().equals(ALL_TESTS + "\n")) {
                    checkCommand(block, last ? block : readme.blocks().get(i + 1));
                }
            } else if (!block.kind().equals("java") && !block.kind().equals("text")) {
                faults.add("line " + block.first() + " is of no kind that is checked");
            }
        }
    }

    private void checkCommand(Readme.Block block, Readme.Block behind)
            throws IOException, InterruptedException {
        Ended ended = run(block.text());
        if (ended.code() != 0) {
            faults.add("line " + block.first() + ": exit code " + ended.code() + ":\n"
                    + ended.printed() + ended.errors());
        } else if (behind.kind().equals("text") && !behind.text().equals(ended.printed())) {
            faults.add("line " + behind.first() + " is not what is printed:\n" + ended.printed());
        }
    }

    private static Ended run(String commands) throws IOException, InterruptedException {
        Path errors = WORKSHOP.resolve("errors.txt");
        Process process = new ProcessBuilder("bash", "-e", "-c", commands)
                .directory(WORKSHOP.toFile()).redirectError(errors.toFile()).start();
        String printed = new String(process.getInputStream().readAllBytes());
        int code = process.waitFor();
        return new Ended(code, printed, Files.readString(errors));
    }
}
