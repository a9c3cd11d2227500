import java.io.IOException;
import java.lang.reflect.Method;
import java.lang.reflect.Modifier;
import java.nio.file.DirectoryStream;
import java.nio.file.Files;
import java.nio.file.Path;
import java.util.List;
import java.util.regex.Matcher;
import java.util.regex.Pattern;

/** README.md tells what is so: its example, every call with its numbers and its STATUS, and every test. */
public final class ReadmeTest {
    private static final int LAST_STATUS = 13;

    public static void main(String[] args) throws IOException {
        List<String> lines = Files.readAllLines(Path.of("README.md"));
        String page = String.join("\n", lines);
        exampleGivesWhatItSays();
        everyCallIsTold(page);
        everyOrderIsTold(lines);
        for (int status = 0; status <= LAST_STATUS; status++) {
            Due.is("README.md tells status " + status, page.contains("| " + status + " |"), true);
        }
        everyTestIsTold(page);
        Due.end();
    }

    private static void exampleGivesWhatItSays() {
        FairTables fair = new FairTables();
        int agent = fair.agent();
        int editor = fair.editor();
        Due.done("worth", fair, fair.worth(agent, editor, 50));
        Due.gives("best()", fair, fair.best(), 50);
        Due.gives("meets", fair, fair.meets(agent, editor), 0);
        int book = fair.book(true);
        Due.gives("hears", fair, fair.hears(book, editor), 0);
        Due.done("list", fair, fair.list(book, editor, true));
        int offer = fair.offer(book, editor, 3, 1, 1, 0, 364, 10, 60);
        Due.gives("take", fair, fair.take(offer, 20), 0);
        Due.done("left", fair, fair.left(book, 255, 15, 15, 100));
        Due.is("upper()", fair.upper(), 63);
        Due.is("lower()", fair.lower(), 64);
        Due.none("grant", fair, fair.grant(book, editor, 1, 1, 1, 5, 6), 10);
        Due.done("tray", fair, fair.tray(0, 2, 1));
        Due.done("write", fair, fair.write(0, 0, 1000));
        Due.gives("auction", fair, fair.auction(0, 0, FairTables.NONE, 0, 100), 0);
        Due.gives("sold(0)", fair, fair.sold(0), 100);
    }

    private static void everyCallIsTold(String page) {
        for (Method m : FairTables.class.getDeclaredMethods()) {
            if (Modifier.isPublic(m.getModifiers())) {
                Matcher told = Pattern.compile("`" + m.getName() + "\\(([^)]*)\\)`").matcher(page);
                boolean found = told.find();
                Due.is("README.md tells " + m.getName(), found, true);
                int numbers = !found || told.group(1).isEmpty() ? 0 : told.group(1).split(", ").length;
                Due.is("numbers of " + m.getName() + " in README.md", numbers, m.getParameterCount());
            }
        }
    }

    /** The last column of a call's row is what Askings tells of it, which the class is asked in other tests. */
    private static void everyOrderIsTold(List<String> lines) {
        for (Asking asking : Askings.all()) {
            // The one without a floor has the longer list: nobody bids.
            String name = asking.name.equals("auction") ? "none" : asking.name.equals("auction, bare") ? "auction" : asking.name;
            for (String line : lines) {
                if (line.startsWith("| `") && line.contains("`" + name + "(")) {
                    Due.is(line + " ends with" + orderOf(asking), line.endsWith("|" + orderOf(asking) + " |"), true);
                }
            }
        }
    }

    private static String orderOf(Asking asking) {
        StringBuilder order = new StringBuilder();
        int rank = 0;
        for (Asking.Fault fault : asking.faults) {
            if (fault.rank > rank) {
                order.append(rank == 0 ? " " : ", ").append(fault.status);
                rank = fault.rank;
            }
        }
        return order.toString();
    }

    private static void everyTestIsTold(String page) throws IOException {
        try (DirectoryStream<Path> tests = Files.newDirectoryStream(Path.of("src/test/java"), "*Test.java")) {
            for (Path test : tests) {
                String name = test.getFileName().toString().replace(".java", "");
                Due.is("README.md tells " + name, page.contains("`" + name + "`"), true);
            }
        }
    }
}
