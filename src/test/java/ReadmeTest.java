import java.io.IOException;
import java.lang.reflect.Method;
import java.lang.reflect.Modifier;
import java.nio.file.Files;
import java.nio.file.Path;
import java.util.List;

/** README.md tells how to use the class: its example and its tables are held to the class. */
public final class ReadmeTest {
    private static final int CALLS = 17;
    private static final int MOST_FACTS = 11;

    /** A call of the fact with the number what; it throws where there is none. */
    private interface Fact {
        void ask(int what);
    }

    private static final Check check = new Check("readme");
    private static List<String> lines;

    public static void main(String[] args) throws IOException {
        lines = Files.readAllLines(Path.of("README.md"));
        exampleAnswersAsToldThere();
        eachCallHasARow();
        eachFactHasACell();
        check.isTrue("README.md tells how many calls an object is used for", tells("at most 512 calls"));
        check.isTrue("README.md tells how the tests are run", tells("`.ci/run`"));
        check.end();
    }

    private static boolean tells(String text) {
        return lines.stream().anyMatch(line -> line.contains(text));
    }

    private static void exampleAnswersAsToldThere() {
        ZipCanopy canopy = new ZipCanopy();
        check.isTrue("the example makes an object", tells("ZipCanopy canopy = new ZipCanopy();"));
        int top = canopy.build(0, 0, 50);
        check.isTrue("the example builds a top", tells("int top = canopy.build(0, 0, 50);"));
        int bottom = canopy.build(10, 5, 30);
        check.isTrue("the example builds a bottom", tells("int bottom = canopy.build(10, 5, 30);"));
        int line = canopy.span(top, bottom, 100, 1);
        check.isTrue("the example spans a line", tells("int line = canopy.span(top, bottom, 100, 1);"));
        answers("canopy.ride(line, 80);", canopy.ride(line, 80));
        int rider = canopy.come(top, bottom, 80, 20);
        check.isTrue("the example has a rider come", tells("int rider = canopy.come(top, bottom, 80, 20);"));
        answers("canopy.arrives(rider);", canopy.arrives(rider));
        answers("canopy.pass(3);", canopy.pass(3));
        answers("canopy.rider(rider, 10);", canopy.rider(rider, 10));
        answers("canopy.count(0);", canopy.count(0));
    }

    /** The call stands in the example, with a comment that begins with the answer. */
    private static void answers(String call, int answer) {
        String comment = "// " + answer + "\\b.*";
        boolean told = lines.stream().anyMatch(
                line -> line.startsWith(call) && line.substring(call.length()).trim().matches(comment));
        check.isTrue("README.md tells that " + call + " answers " + answer, told);
    }

    /** With as many parameters as the call has, and the exceptions that it names, in their order. */
    private static void eachCallHasARow() {
        int rows = 0;
        for (Method method : ZipCanopy.class.getDeclaredMethods()) {
            if (Modifier.isPublic(method.getModifiers())) {
                List<String> row = rowOf("`" + method.getName() + "(");
                String call = row.get(0);
                int parameters = call.contains("()") ? 0 : call.split(",").length;
                check.same("parameters of " + call, parameters, method.getParameterCount());
                check.isTrue(call + " throws " + row.get(2), row.get(2).matches(thrownBy(method)));
                rows++;
            }
        }
        check.same("calls with a row", rows, CALLS);
    }

    private static String thrownBy(Method method) {
        StringBuilder thrown = new StringBuilder();
        for (Class<?> kind : method.getExceptionTypes()) {
            thrown.append(thrown.length() == 0 ? "" : "; ").append("`").append(kind.getSimpleName()).append("`: [^;]+");
        }
        return thrown.length() == 0 ? "nothing" : thrown.toString();
    }

    private static void eachFactHasACell() {
        ZipCanopy canopy = Scenes.busy();
        for (int what = 0; what < MOST_FACTS; what++) {
            List<String> row = rowOf(what + " ");
            cellIsAsAsked("platform", what, row.get(1), w -> canopy.platform(0, w));
            cellIsAsAsked("line", what, row.get(2), w -> canopy.line(0, w));
            cellIsAsAsked("rider", what, row.get(3), w -> canopy.rider(0, w));
            cellIsAsAsked("count", what, row.get(4), w -> canopy.count(w));
        }
    }

    private static void cellIsAsAsked(String call, int what, String cell, Fact fact) {
        boolean known = true;
        try {
            fact.ask(what);
        } catch (IndexOutOfBoundsException e) {
            known = false;
        }
        check.isTrue("README.md tells what " + call + " answers to " + what + ", and only if it does",
                known == !cell.isEmpty());
    }

    /** The cells of the row that begins like this; none is missing, though a cell can be empty. */
    private static List<String> rowOf(String begin) {
        for (String line : lines) {
            if (line.startsWith("| " + begin)) {
                return List.of(line.substring(1, line.length() - 1).trim().split(" *\\| *", -1));
            }
        }
        check.isTrue("README.md has a row for " + begin, false);
        return List.of("", "", "", "", "");
    }
}
