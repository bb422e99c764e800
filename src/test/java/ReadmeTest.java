import java.io.IOException;
import java.lang.reflect.Method;
import java.lang.reflect.Modifier;
import java.nio.file.Files;
import java.nio.file.Path;

/** What README.md says of the class holds: the answers of its example, and its list of calls. */
public final class ReadmeTest {
    private static final Check check = new Check();
    private static String page;

    public static void main(String[] args) throws IOException {
        page = Files.readString(Path.of(args.length > 0 ? args[0] : "README.md"));
        example();
        allCalls();
        check.due("the page says how to run the tests", page.contains(".ci/run"), true);
        check.end();
    }

    private static void example() {
        FoamBlocks works = new FoamBlocks();
        int soft = works.kind(100, 5);
        said("int soft = works.kind(100, 5);", soft, 0);
        int metre = works.length(10);
        said("int metre = works.length(10);", metre, 0);
        said("works.worth(metre, soft, 40);", works.worth(metre, soft, 40) ? 1 : 0, 1);
        said("works.pour(soft, 35);", works.pour(soft, 35), 35);
        said("works.cut();", works.cut(), 3);
        said("works.lay();", works.lay(), 3);
        said("works.pass(24);", works.pass(24), 24);
        int sheets = works.order(soft, metre, 10, 5, 6);
        said("int sheets = works.order(soft, metre, 10, 5, 6);", sheets, 0);
        said("works.fill(sheets);", works.fill(sheets), 2);
        said("works.by(sheets, 0);", works.by(sheets, 0), 0);
        said("works.led(0);", works.led(0), 6);
        said("works.shred();", works.shred(), 20);
    }

    /** The call stands on the page, and its answer is the one due and the one told behind it. */
    private static void said(String call, int got, int want) {
        check.due(call, got, want);
        String line = page.lines().filter(l -> l.startsWith(call)).findFirst().orElse("");
        check.due(call + " stands on the page", !line.isEmpty(), true);
        String told = line.replaceFirst(".*// (\\d+)\\b.*", "$1");
        if (!told.equals(line)) {
            check.due(call + " on the page", Integer.parseInt(told), want);
        }
    }

    private static void allCalls() {
        for (Method m : FoamBlocks.class.getDeclaredMethods()) {
            if (Modifier.isPublic(m.getModifiers())) {
                check.due(m.getName() + " is in a table of the page",
                    page.contains("| `" + m.getName() + "("), true);
            }
        }
    }
}
