import java.io.IOException;
import java.lang.reflect.Method;
import java.lang.reflect.Modifier;
import java.nio.file.DirectoryStream;
import java.nio.file.Files;
import java.nio.file.Path;
import java.util.regex.Pattern;

/**
 * README.md: its example answers as it says, and every call and every test stands in its tables.
 * It is run in the project's folder.
 */
public final class ReadmeTest {
    private static final Check check = new Check();

    private final String readme;
    /** How far the example has been read: its calls stand in the order in which they are made. */
    private int reached = 0;

    private ReadmeTest(String readme) {
        this.readme = readme;
    }

    public static void main(String[] args) throws IOException {
        ReadmeTest test = new ReadmeTest(Files.readString(Path.of("README.md")));
        test.example();
        test.everyCall();
        test.everyTest();
        check.end();
    }

    private void example() {
        PortDesk desk = new PortDesk();
        says("make(0)", desk.make(0));
        says("answer(8, 100)", desk.answer(8, 100));
        says("call(8, 1, 7)", desk.call(8, 1, 7));
        says("fails(8, 4)", desk.fails(8, 4));
        says("call(8, 1, 50)", desk.call(8, 1, 50));
        says("sum(0, 8)", desk.sum(0, 8));
        says("told(4)", desk.told(4));
        says("call(8, 2, 1)", desk.call(8, 2, 1));
        says("log(0, 1)", desk.log(0, 1));
        says("collect(3, 0)", desk.collect(3, 0));
        says("collected(3, 0)", desk.collected(3, 0));
        says("drop(0, 1)", desk.drop(0, 1));
        says("call(8, 1, 1)", desk.call(8, 1, 1));
        says("numbers(0)", desk.numbers(0));
        says("number(0, 0)", desk.number(0, 0));
        says("same()", desk.same());
        says("again(8, 2, 1)", desk.again(8, 2, 1));
        says("same()", desk.same());
        check.due("calls of the example that this test does not make",
            readme.indexOf("\ndesk.", reached) >= 0, false);
    }

    private void says(String call, Object answered) {
        int start = readme.indexOf("\ndesk.", reached);
        int end = start < 0 ? -1 : readme.indexOf('\n', start + 1);
        if (end < 0) {
            check.tell("the example has no " + call);
            return;
        }
        reached = end;
        String line = readme.substring(start + 1, end);
        String want = "desk\\." + Pattern.quote(call) + "; +// " + answered + ": .+";
        if (!line.matches(want)) {
            check.tell(call + " answered " + answered + ", the example says: " + line);
        }
    }

    private void everyCall() {
        for (Method method : PortDesk.class.getDeclaredMethods()) {
            if (Modifier.isPublic(method.getModifiers())) {
                String row = "\n| `" + method.getName() + "(";
                check.due("a row of " + method.getName(), readme.contains(row), true);
            }
        }
    }

    private void everyTest() throws IOException {
        try (DirectoryStream<Path> tests = Files.newDirectoryStream(Path.of("src/test/java"), "*Test.java")) {
            for (Path test : tests) {
                String name = test.getFileName().toString().replace(".java", "");
                check.due("a row of " + name, readme.contains("\n| `" + name + "` |"), true);
            }
        }
    }
}
