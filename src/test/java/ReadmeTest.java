import java.io.IOException;
import java.lang.reflect.Method;
import java.nio.file.DirectoryStream;
import java.nio.file.Files;
import java.nio.file.Path;
import java.util.HashMap;
import java.util.Map;
import java.util.regex.Matcher;
import java.util.regex.Pattern;

/** What README.md says of the class holds: its example line by line, the codes, the methods and the names of the tests. */
public final class ReadmeTest {
    private static final Pattern LINE =
        Pattern.compile("(?:int (\\w+) = )?x\\.(\\w+)\\(([^)]*)\\); +// (-?\\d+): .*");
    private static int rows;
    private static int wrong;

    private ReadmeTest() {
    }

    public static void main(String[] args) throws IOException {
        String text = Files.readString(Path.of("README.md"));
        String document = Files.readString(Path.of("../shared/DOC.md"));
        runExample(text);
        lookForCodes(text);
        lookForMethods(text, document);
        lookForTests(text);
        System.out.println("ReadmeTest: " + rows + " rows of the example, " + wrong + " wrong");
        if (wrong != 0) {
            System.exit(1);
        }
    }

    private static void expect(String what, boolean holds) {
        if (!holds) {
            wrong++;
            System.out.println("does not hold: " + what);
        }
    }

    /** Every line of the example but the first is a call, with its answer in the comment. */
    private static void runExample(String text) {
        Matcher block = Pattern.compile("(?s)```java\n(.*?)```").matcher(text);
        expect("there is an example", block.find());
        String[] lines = block.group(1).split("\n");
        expect("the example makes an object first", lines[0].equals("PieceSurfaces x = new PieceSurfaces();"));
        Subject x = new Subject();
        Map<String, Integer> names = new HashMap<>();
        for (int i = 1; i < lines.length; i++) {
            Matcher line = LINE.matcher(lines[i]);
            expect("a call with its answer: " + lines[i], line.matches());
            int got = x.call(line.group(2) + arguments(line.group(3), names));
            expect(lines[i] + " (answered " + got + ")", got == Integer.parseInt(line.group(4)));
            if (line.group(1) != null) {
                names.put(line.group(1), got);
            }
            rows++;
        }
        expect("the example has rows", rows > 0);
    }

    private static String arguments(String list, Map<String, Integer> names) {
        StringBuilder all = new StringBuilder();
        if (!list.isEmpty()) {
            for (String one : list.split(", ")) {
                all.append(' ').append(names.containsKey(one) ? names.get(one).toString() : one);
            }
        }
        return all.toString();
    }

    private static void lookForCodes(String text) {
        expect("NONE", text.contains("`NONE` (" + PieceSurfaces.NONE + ")"));
        expect("UNKNOWN", text.contains("`UNKNOWN` (" + PieceSurfaces.UNKNOWN + ")"));
        expect("OUTSIDE", text.contains("`OUTSIDE` (" + PieceSurfaces.OUTSIDE + ")"));
        expect("NOT", text.contains("`NOT` (" + PieceSurfaces.NOT + ")"));
        expect("FULL", text.contains("`FULL` (" + PieceSurfaces.FULL + ")"));
    }

    /** Each method has a row with the number of its promise and with its arguments by the document's names. */
    private static void lookForMethods(String text, String document) {
        Matcher promise = Pattern.compile("## Promise (\\d+): (\\w+)\n\n`int \\w+\\(([^)]*)\\)`").matcher(document);
        int found = 0;
        while (promise.find()) {
            String row = "| " + promise.group(1) + " | `" + promise.group(2) + "("
                + promise.group(3).replace("int ", "") + ")` |";
            expect("the row " + row, text.contains(row));
            found++;
        }
        int methods = 0;
        for (Method m : PieceSurfaces.class.getMethods()) {
            methods += m.getDeclaringClass() == PieceSurfaces.class ? 1 : 0;
        }
        expect("as many promises as methods", found == methods);
    }

    private static void lookForTests(String text) throws IOException {
        try (DirectoryStream<Path> tests = Files.newDirectoryStream(Path.of("src/test/java"), "*Test.java")) {
            for (Path test : tests) {
                String name = test.getFileName().toString().replace(".java", "");
                expect("the test " + name, text.contains("- `" + name + "`:"));
            }
        }
    }
}
