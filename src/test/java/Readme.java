import java.util.ArrayList;
import java.util.List;
import java.util.regex.Matcher;
import java.util.regex.Pattern;

/** What a README shows: programs, calls with their answers, and commands with what they print. */
final class Readme {
    private static final String FENCE = "```";
    private static final Pattern PROGRAM = Pattern.compile("public (?:final )?class (\\w+) .*");
    private static final Pattern NEW_NET = Pattern.compile("HopRouters \\w+ = new HopRouters\\(\\);");
    private static final Pattern CALL = Pattern.compile(
            "(\\w+\\.(\\w+)\\(.*\\)); *// (-?\\d+|true|false|nothing|throws \\w+): .+");

    /** A fenced block; the README's line number first is that of the first of its lines. */
    record Block(String kind, int first, List<String> lines) {
        /** The name of the class that it is the whole file of; empty if it is none. */
        String program() {
            for (String line : lines) {
                Matcher m = PROGRAM.matcher(line);
                if (m.matches()) {
                    return m.group(1);
                }
            }
            return "";
        }

        boolean showsCalls() {
            return kind.equals("java") && program().isEmpty();
        }

        String text() {
            return String.join("\n", lines) + "\n";
        }
    }

    /** A line of a block that shows calls: a call with the answer that is told, or a new net. */
    record Step(int line, String code, String method, String told) {
        boolean isCall() {
            return !method.isEmpty();
        }
    }

    private final List<Block> blocks = new ArrayList<>();
    private final List<String> faults = new ArrayList<>();

    Readme(List<String> lines) {
        Block open = null;
        for (int i = 0; i < lines.size(); i++) {
            String line = lines.get(i);
            if (!line.startsWith(FENCE)) {
                if (open != null) {
                    open.lines().add(line);
                }
            } else if (open == null) {
                open = new Block(line.substring(FENCE.length()), i + 2, new ArrayList<>());
            } else {
                blocks.add(open);
                open = null;
            }
        }
        if (open != null) {
            faults.add("line " + open.first() + ": the block has no end");
        }
        for (Block block : blocksOfCalls()) {
            findUncheckedLines(block);
        }
    }

    List<Block> blocks() {
        return blocks;
    }

    List<Block> blocksOfCalls() {
        return blocks.stream().filter(Block::showsCalls).toList();
    }

    /** All calls that are shown, in their order. */
    List<Step> calls() {
        List<Step> calls = new ArrayList<>();
        for (Block block : blocksOfCalls()) {
            calls.addAll(steps(block).stream().filter(Step::isCall).toList());
        }
        return calls;
    }

    static List<Step> steps(Block block) {
        List<Step> steps = new ArrayList<>();
        for (int i = 0; i < block.lines().size(); i++) {
            String line = block.lines().get(i);
            Matcher call = CALL.matcher(line);
            if (call.matches()) {
                steps.add(new Step(block.first() + i, call.group(1), call.group(2), call.group(3)));
            } else if (NEW_NET.matcher(line).matches()) {
                steps.add(new Step(block.first() + i, line, "", ""));
            }
        }
        return steps;
    }

    /** What is wrong already when it is read. */
    List<String> faults() {
        return faults;
    }

    private void findUncheckedLines(Block block) {
        for (int i = 0; i < block.lines().size(); i++) {
            String line = block.lines().get(i);
            boolean checked = CALL.matcher(line).matches() || NEW_NET.matcher(line).matches();
            if (!checked && !line.isEmpty()) {
                faults.add("line " + (block.first() + i) + " tells no answer: " + line);
            }
        }
    }
}
