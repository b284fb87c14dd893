import java.util.ArrayList;
import java.util.HashMap;
import java.util.List;
import java.util.Map;

/**
 * Everything that can be asked of an object. Some of it is told only by calls that change the object (the seed, the steps
 * that can be undone, the images, the entries), and it is more than an object's 512 calls: so it is asked in groups,
 * each of an object of its own after the same run.
 */
final class Questions {
    private static final List<List<String>> GROUPS = groups();
    private static final Map<String, int[][]> ANSWERED = new HashMap<>();

    private Questions() {
    }

    /** Checks that everything answers after one run as it does after the other. */
    static void same(String one, String two) {
        int[][] due = answers(one);
        int[][] got = answers(two);
        for (int g = 0; g < due.length; g++) {
            for (int i = 0; i < due[g].length; i++) {
                if (got[g][i] != due[g][i]) {
                    Sentences.check(two + " (compared with: " + one + ")", askedUpTo(g, i), got[g][i], due[g][i]);
                    return;
                }
            }
        }
        Sentences.checked();
    }

    private static String askedUpTo(int group, int last) {
        return last < 3 ? String.join(", ", GROUPS.get(group).subList(0, last + 1))
            : GROUPS.get(group).get(0) + " .. " + GROUPS.get(group).get(last);
    }

    private static int[][] answers(String run) {
        int[][] known = ANSWERED.get(run);
        if (known == null) {
            known = new int[GROUPS.size()][];
            for (int g = 0; g < known.length; g++) {
                known[g] = answersOf(Subject.after(run), GROUPS.get(g));
            }
            ANSWERED.put(run, known);
        }
        return known;
    }

    private static int[] answersOf(Subject x, List<String> calls) {
        int[] answers = new int[calls.size()];
        for (int i = 0; i < answers.length; i++) {
            answers[i] = x.call(calls.get(i));
        }
        return answers;
    }

    private static List<List<String>> groups() {
        List<List<String>> groups = new ArrayList<>();
        groups.add(rooms());
        for (int s = 0; s < 6; s += 2) {
            List<String> two = surface(s);
            two.addAll(surface(s + 1));
            groups.add(two);
        }
        groups.add(draws());
        groups.add(eachUndone(false));
        groups.add(eachUndone(true));
        groups.add(images(rooms()));
        groups.add(images(numbers()));
        groups.add(book());
        return groups;
    }

    private static void row(List<String> list, String text, int many) {
        for (int i = 0; i < many; i++) {
            list.add(text.replace("#", Integer.toString(i)));
        }
    }

    private static List<String> rooms() {
        List<String> list = new ArrayList<>();
        row(list, "told #", 12);
        for (int b = 0; b < 3; b++) {
            for (int v = 0; v < 4; v++) {
                row(list, "wall " + b + " " + v + " #", 3);
                row(list, "corner " + b + " " + v + " #", 5);
            }
            for (int e = 0; e < 6; e++) {
                row(list, "edge " + b + " " + e + " #", 3);
            }
        }
        return list;
    }

    private static List<String> surface(int s) {
        List<String> list = new ArrayList<>();
        row(list, "surface " + s + " #", 9);
        for (int b = 0; b < 3; b++) {
            row(list, "pieces " + s + " " + b + " #", 7);
            row(list, "weight " + s + " " + b + " #", 6);
            for (int f = 0; f < 4; f++) {
                row(list, "arcs " + s + " " + b + " " + f + " #", 4);
            }
        }
        return list;
    }

    private static List<String> numbers() {
        List<String> list = new ArrayList<>();
        for (int s = 0; s < 6; s++) {
            for (int b = 0; b < 3; b++) {
                row(list, "pieces " + s + " " + b + " #", 7);
            }
        }
        return list;
    }

    private static List<String> draws() {
        List<String> list = new ArrayList<>();
        list.add("drift 12");
        list.add("seed 0");
        list.addAll(rooms());
        return list;
    }

    private static List<String> eachUndone(boolean walls) {
        List<String> list = new ArrayList<>();
        for (int n = 0; n < 16; n++) {
            list.add("undo 1");
            if (walls) {
                for (int b = 0; b < 3; b++) {
                    row(list, "wall " + b + " # 1", 4);
                }
            } else {
                row(list, "told #", 12);
                row(list, "surface # 2", 6);
                row(list, "surface # 3", 6);
            }
        }
        return list;
    }

    private static List<String> images(List<String> then) {
        List<String> list = new ArrayList<>();
        for (int i = 0; i < 2; i++) {
            list.add("goBack " + i);
            list.addAll(then);
            list.add("seed 0");
        }
        return list;
    }

    private static List<String> book() {
        List<String> list = new ArrayList<>();
        for (int s = 0; s < 6; s++) {
            list.add("told 10");
            list.add("take 0");
        }
        list.add("told 10");
        list.add("tear");
        list.add("told 9");
        return list;
    }
}
