import java.io.IOException;
import java.lang.reflect.Method;
import java.lang.reflect.Modifier;
import java.nio.file.Files;
import java.nio.file.Path;
import java.util.ArrayList;
import java.util.List;

/** README.md shows calls with their answers: each of them, in its order, is made here too. */
public final class ReadmeTest {
    private static final String START = "```java";
    private static final String END = "```";

    private final List<String> example;
    private int at = 0;

    private ReadmeTest(List<String> example) {
        this.example = example;
    }

    public static void main(String[] args) throws IOException {
        List<String> readme = Files.readAllLines(Path.of("README.md"));
        ReadmeTest test = new ReadmeTest(exampleIn(readme));
        Checks.test("README.md, the example", test::answersAsShown);
        Checks.test("README.md, the table of calls", () -> tableHasAll(readme));
        Checks.finish();
    }

    private static List<String> exampleIn(List<String> readme) {
        List<String> found = new ArrayList<>();
        int line = readme.indexOf(START) + 1;
        while (line > 0 && line < readme.size() && !readme.get(line).equals(END)) {
            if (!readme.get(line).isBlank()) {
                found.add(readme.get(line));
            }
            line++;
        }
        return found;
    }

    private void answersAsShown() {
        CausalDesk desk = new CausalDesk();
        shown("CausalDesk desk = new CausalDesk();");
        int sent = desk.send(0);
        shown("int sent = desk.send(0);", sent);
        int alone = desk.own(1);
        shown("int alone = desk.own(1);", alone);
        int got = desk.receive(1, sent);
        shown("int got = desk.receive(1, sent);", got);
        shown("desk.before(sent, got);", desk.before(sent, got));
        shown("desk.apart(sent, alone);", desk.apart(sent, alone));
        shown("desk.rank(got);", desk.rank(got));
        shown("desk.clock(got, 1);", desk.clock(got, 1));
        desk.cut(1, 2);
        shown("desk.cut(1, 2);");
        shown("desk.whole();", desk.whole());
        shown("desk.close();", desk.close());
        desk.cut(0, 0);
        shown("desk.cut(0, 0);");
        shown("desk.open();", desk.open());
        shown("desk.count(3);", desk.count(3));
        desk.undo(2);
        shown("desk.undo(2);");
        shown("desk.count(3);", desk.count(3));
        Checks.same("lines of the example", example.size(), at);
    }

    private void shown(String code) {
        String line = nextLine();
        Checks.same("the line", line.split(" *//")[0], code);
    }

    /** The comment starts with the answer; what it says behind a colon is for the reader. */
    private void shown(String code, Object answer) {
        String[] parts = nextLine().split(" *// *");
        Checks.same("the line", parts[0], code);
        String told = parts.length < 2 ? "nothing" : parts[1].split(":")[0];
        Checks.same("the answer of " + code, told, answer.toString());
    }

    private String nextLine() {
        at++;
        return at <= example.size() ? example.get(at - 1) : "missing";
    }

    private static void tableHasAll(List<String> readme) {
        for (Method method : CausalDesk.class.getDeclaredMethods()) {
            if (Modifier.isPublic(method.getModifiers())) {
                String row = "| `" + method.getName() + "(";
                Checks.yes(row, readme.stream().anyMatch(line -> line.startsWith(row)));
            }
        }
    }
}
