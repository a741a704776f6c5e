import java.io.IOException;
import java.nio.file.Files;
import java.nio.file.Path;
import java.util.List;
import java.util.regex.Matcher;
import java.util.regex.Pattern;

/** README.md, as it stands where the tests are run: its calls answer what it says, and none is missing. */
final class ReadmeTest {
    private static final Pattern CALL = Pattern.compile("    yard\\.(\\w+)\\(([^)]*)\\); +// ([-\\w]+)(:.*)?");

    public static void main(String[] args) throws IOException {
        Check check = new Check();
        List<String> readme = Files.readAllLines(Path.of("README.md"));
        answers(check, readme);
        table(check, readme);
        check.finish("ReadmeTest");
    }

    private static void answers(Check check, List<String> readme) {
        FairBatten yard = new FairBatten();
        int calls = 0;
        for (String line : readme) {
            if (line.startsWith("    yard.")) {
                Matcher call = CALL.matcher(line);
                check.due("a call with its answer: " + line, call.matches() ? 1 : 0, 1);
                String due = call.group(3);
                String told = Calls.told(yard, asTold(call.group(1), call.group(2)));
                check.due(line, told, due.endsWith("Exception") ? "throws." + due : due);
                calls++;
            }
        }
        check.due("there are calls", calls > 0 ? 1 : 0, 1);
    }

    /** As Calls takes it. */
    private static String asTold(String name, String numbers) {
        if (name.equals("plankOf")) {
            String[] parts = numbers.split(", ");
            return "plankOf " + (parts[1].equals("true") ? "right " : "left ") + parts[0];
        }
        return (name + " " + numbers.replace(",", "")).trim();
    }

    private static void table(Check check, List<String> readme) {
        for (String method : FaceTest.names()) {
            String name = method.substring(0, method.indexOf('('));
            long rows = readme.stream().filter(line -> line.startsWith("| `" + name + "(")).count();
            check.due("rows of " + name, rows, 1);
        }
    }
}
