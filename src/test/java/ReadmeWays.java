import java.io.IOException;
import java.nio.file.Files;
import java.nio.file.Path;
import java.util.ArrayList;
import java.util.List;
import java.util.Set;
import java.util.TreeSet;
import java.util.regex.Matcher;
import java.util.regex.Pattern;

/**
 * Makes a test of a README, so that the page can't tell what does not hold: ReadmeTest.java of its
 * java blocks, commands.sh of its sh blocks. Called with the page and the directory to write to.
 */
public final class ReadmeWays {
    private static final Pattern ANSWERED =
        Pattern.compile("(.*);\\s*// (-?[0-9]+|true|false|NoSuchElementException)(:.*)?");
    private static final Pattern CALLED = Pattern.compile("\\bx\\.([a-z]+)\\(");
    /** It makes this test, and so is not one of the commands. */
    private static final String WHOLE = "sh .ci/run";

    private final List<String> helpers = new ArrayList<>();
    private final List<String> ways = new ArrayList<>();
    private final List<String> commands = new ArrayList<>();
    private final Set<String> called = new TreeSet<>();
    private int wayCount = 0;

    private ReadmeWays() {
    }

    public static void main(String[] args) throws IOException {
        ReadmeWays made = new ReadmeWays();
        made.read(Files.readAllLines(Path.of(args[0])));
        Path to = Path.of(args[1]);
        Files.write(to.resolve("ReadmeTest.java"), made.test());
        Files.write(to.resolve("commands.sh"), made.commands);
    }

    private void read(List<String> page) {
        int i = 0;
        while (i < page.size()) {
            String fence = page.get(i);
            i++;
            if (!fence.startsWith("```")) {
                continue;
            }
            int from = i;
            while (i < page.size() && !page.get(i).equals("```")) {
                i++;
            }
            if (i == page.size()) {
                throw new IllegalArgumentException("line " + from + ": this block has no end");
            }
            take(fence.substring(3), page.subList(from, i), from + 1);
            i++;
        }
        if (wayCount == 0 || commands.isEmpty()) {
            throw new IllegalArgumentException("the page shows no calls, or no commands");
        }
    }

    private void take(String kind, List<String> block, int line) {
        if (kind.equals("sh")) {
            block.stream().filter(c -> !c.equals(WHOLE)).forEach(commands::add);
        } else if (!kind.equals("java")) {
            throw new IllegalArgumentException("line " + line + ": what is shown as '" + kind + "'?");
        } else if (!block.isEmpty() && block.get(0).startsWith("static ")) {
            helpers.addAll(block);
        } else {
            takeWay(block, line);
        }
    }

    private void takeWay(List<String> block, int line) {
        ways.add("private static void way" + wayCount + "() {");
        wayCount++;
        for (int i = 0; i < block.size(); i++) {
            ways.add(statement(block.get(i), line + i));
        }
        ways.add("}");
    }

    private String statement(String shown, int line) {
        Matcher calls = CALLED.matcher(shown);
        while (calls.find()) {
            called.add(calls.group(1));
        }
        Matcher m = ANSWERED.matcher(shown);
        if (!m.matches()) {
            if (shown.contains("//") || shown.startsWith("x.")) {
                throw new IllegalArgumentException("line " + line + ": no answer in " + shown);
            }
            return shown;
        }
        String call = m.group(1);
        String what = "\"README.md, line " + line + ": " + call.replace("\\", "\\\\").replace("\"", "\\\"") + "\"";
        if (m.group(2).equals("NoSuchElementException")) {
            return "Check.none(" + what + ", () -> " + call + ");";
        }
        return "Check.is(" + what + ", " + call + ", " + m.group(2) + ");";
    }

    private List<String> test() {
        List<String> all = new ArrayList<>();
        all.add("public final class ReadmeTest {");
        all.addAll(helpers);
        all.addAll(ways);
        all.add("public static void main(String[] args) {");
        for (int i = 0; i < wayCount; i++) {
            all.add("way" + i + "();");
        }
        all.add("java.util.Set<String> called = java.util.Set.of(\"" + String.join("\", \"", called) + "\");");
        all.add("for (java.lang.reflect.Method m : NobodyBeenAft.class.getMethods()) {");
        all.add("if (m.getDeclaringClass() == NobodyBeenAft.class) {");
        all.add("Check.is(\"README.md shows \" + m.getName(), called.contains(m.getName()), true);");
        all.add("}");
        all.add("}");
        all.add("Check.close(\"ReadmeTest\");");
        all.add("}");
        all.add("}");
        return all;
    }
}
