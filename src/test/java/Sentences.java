import java.io.IOException;
import java.nio.file.Files;
import java.nio.file.Path;
import java.util.LinkedHashMap;
import java.util.Map;
import java.util.regex.Matcher;
import java.util.regex.Pattern;

/**
 * The sentences of the document, and the checks of each. A test begins with of(..), which names the sentence; the sentence
 * must stand in the document, and must be checked. At the end each word for an error code or for NONE that stands
 * in a promise must have been covered by a sentence.
 */
final class Sentences {
    static final int NONE = -1, UNKNOWN = -1000000001, OUTSIDE = -1000000002, NOT = -1000000003, FULL = -1000000004;
    private static final Pattern CODE = Pattern.compile("\\b(NONE|UNKNOWN|OUTSIDE|NOT|FULL)\\b");

    private static final Map<String, String> sections = new LinkedHashMap<>();
    private static final Map<String, boolean[]> covered = new LinkedHashMap<>();
    private static String current = "";
    private static int sentences;
    private static int checks;
    private static int checksOfAll;
    private static int wrong;

    private Sentences() {
    }

    /** Reads the document: its headings, and the lines in capitals below "Description", begin sections. */
    static void read(Path document) throws IOException {
        String name = "";
        StringBuilder text = new StringBuilder();
        for (String line : Files.readAllLines(document)) {
            boolean heading = line.startsWith("#") || line.matches("[A-Z][A-Z ]+");
            if (heading) {
                enter(name, text);
                name = line.replaceAll("^#+ ", "").replaceAll(":.*", "");
                text.setLength(0);
            } else {
                text.append(line).append(' ');
            }
        }
        enter(name, text);
    }

    private static void enter(String name, StringBuilder text) {
        String plain = text.toString().replaceAll("\\s+", " ");
        sections.put(name, plain);
        covered.put(name, new boolean[plain.length()]);
    }

    static void of(int promise, String sentence) {
        of("Promise " + promise, sentence);
    }

    static void of(String section, String sentence) {
        endSentence();
        current = section + ", \"" + sentence + "\"";
        sentences++;
        int at = sections.containsKey(section) ? sections.get(section).indexOf(sentence) : -1;
        if (at < 0) {
            fail("the document does not say this there");
            return;
        }
        for (int i = at; i < at + sentence.length(); i++) {
            covered.get(section)[i] = true;
        }
    }

    private static void endSentence() {
        if (!current.isEmpty() && checks == 0) {
            fail("nothing was checked");
        }
        checksOfAll += checks;
        checks = 0;
    }

    private static void fail(String what) {
        wrong++;
        if (wrong <= 40) {
            System.out.println(current + ": " + what);
        }
    }

    static void checked() {
        checks++;
    }

    static void check(String run, String call, int got, int want) {
        checked();
        if (got != want) {
            fail("after [" + run + "] " + call + " answered " + got + ", due is " + want);
        }
    }

    /** A call that is refused, after which everything that can be asked answers as before it. */
    static void refused(String run, String call, int code) {
        check(run, call, Subject.after(run).call(call), code);
        Questions.same(run, run.isEmpty() ? call : run + ", " + call);
    }

    static void same(String one, String two) {
        Questions.same(one, two);
    }

    /**
     * An argument (the sign # in the call) on both sides of both its borders: the answers that are due from the lowest
     * that is allowed to the highest, each on a new object, and the error code below and above.
     */
    static void borders(String run, String call, int code, int low, int... wants) {
        for (int i = 0; i < wants.length; i++) {
            Subject.after(run).due(put(call, low + i), wants[i]);
        }
        int[] wrongOnes = {low - 1, low + wants.length, Integer.MIN_VALUE, Integer.MAX_VALUE};
        for (int n : wrongOnes) {
            refused(run, put(call, n), code);
        }
    }

    private static String put(String call, int n) {
        return call.replace("#", Integer.toString(n));
    }

    static String times(int many, String calls) {
        return String.join(", ", java.util.Collections.nCopies(many, calls));
    }

    /** A new surface s with these numbers of pieces, kind by kind and tetrahedron by tetrahedron. */
    static String shape(int s, int... numbers) {
        StringBuilder run = new StringBuilder("put");
        for (int k = 0; k < numbers.length; k++) {
            if (numbers[k] > 0) {
                run.append(", piece ").append(s).append(' ').append(k / 7).append(' ').append(k % 7).append(' ').append(numbers[k]);
            }
        }
        return run.toString();
    }

    static void end(String test) {
        endSentence();
        current = "at the end";
        for (String name : sections.keySet()) {
            if (name.startsWith("Promise ")) {
                lookForCodes(name);
            }
        }
        System.out.println(test + ": " + sentences + " sentences, " + checksOfAll + " checks, " + wrong + " wrong");
        if (wrong != 0) {
            System.exit(1);
        }
    }

    private static void lookForCodes(String name) {
        Matcher m = CODE.matcher(sections.get(name));
        while (m.find()) {
            if (!covered.get(name)[m.start()]) {
                fail("no test for " + m.group() + " in " + name);
            }
        }
    }
}
