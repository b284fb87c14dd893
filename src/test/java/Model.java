import java.util.ArrayDeque;
import java.util.ArrayList;
import java.util.Arrays;
import java.util.HashMap;
import java.util.List;
import java.util.Map;

/**
 * The document written down a second time, as plainly and as differently from the class as it goes,
 * so that long runs of calls can be answered by both and compared. Speed does not matter here.
 */
final class Model {
    static final int NONE = -1, UNKNOWN = -1000000001, OUTSIDE = -1000000002, NOT = -1000000003, FULL = -1000000004;
    private static final String[] WAYS = {"pqr", "prq", "qpr", "qrp", "rpq", "rqp"};
    private static final int[][] EDGES = {{0, 1}, {0, 2}, {0, 3}, {1, 2}, {1, 3}, {2, 3}};
    /** The corners on one side of a piece of each kind. */
    private static final String[] SIDE = {"0", "1", "2", "3", "01", "02", "03"};

    private static final class State {
        int bodies = 1;
        List<int[]> gluings = new ArrayList<>();
        List<int[][]> surfaces = new ArrayList<>();

        State copy() {
            State c = new State();
            c.bodies = bodies;
            c.gluings.addAll(gluings);
            for (int[][] s : surfaces) {
                c.surfaces.add(copyOf(s));
            }
            return c;
        }
    }

    private State now = new State();
    private final ArrayDeque<State> past = new ArrayDeque<>();
    private final List<int[]> book = new ArrayList<>();
    private final State[] images = new State[2];
    private final int[] imageSeeds = new int[2];
    private long seed = 0;

    private static int[][] copyOf(int[][] s) {
        int[][] c = new int[s.length][];
        for (int b = 0; b < s.length; b++) {
            c[b] = s[b].clone();
        }
        return c;
    }

    private static boolean in(int x, int low, int high) {
        return low <= x && x <= high;
    }

    private boolean body(int b) {
        return in(b, 0, now.bodies - 1);
    }

    private boolean sheet(int s) {
        return in(s, 0, now.surfaces.size() - 1);
    }

    private void step() {
        past.addLast(now.copy());
        if (past.size() > 16) {
            past.removeFirst();
        }
    }

    // ---- gluings

    private static int[] cornersOf(int f) {
        int[] c = new int[3];
        int n = 0;
        for (int v = 0; v < 4; v++) {
            if (v != f) {
                c[n++] = v;
            }
        }
        return c;
    }

    /** Where a gluing sends corner v of its first face. */
    private static int forward(int f, int g, int way, int v) {
        int at = 0;
        while (cornersOf(f)[at] != v) {
            at++;
        }
        return cornersOf(g)["pqr".indexOf(WAYS[way].charAt(at))];
    }

    private int[] gluingAt(int b, int f) {
        for (int[] g : now.gluings) {
            if (g[0] == b && g[1] == f || g[2] == b && g[3] == f) {
                return g;
            }
        }
        return null;
    }

    /** Tetrahedron, face and corner to which a corner is glued by face f; null if it is not. */
    private int[] sent(int b, int f, int v) {
        int[] g = gluingAt(b, f);
        if (g == null || v == f) {
            return null;
        }
        if (g[0] == b && g[1] == f) {
            return new int[] {g[2], g[3], forward(g[1], g[3], g[4], v)};
        }
        for (int w : cornersOf(g[1])) {
            if (forward(g[1], g[3], g[4], w) == v) {
                return new int[] {g[0], g[1], w};
            }
        }
        throw new IllegalStateException();
    }

    private int freeFaces() {
        return 4 * now.bodies - 2 * now.gluings.size();
    }

    // ---- vertices and lines, by spreading the least label until nothing changes

    private int[] cornerLabels() {
        int[] label = new int[4 * now.bodies];
        for (int i = 0; i < label.length; i++) {
            label[i] = i;
        }
        boolean changed = true;
        while (changed) {
            changed = false;
            for (int i = 0; i < label.length; i++) {
                for (int f = 0; f < 4; f++) {
                    int[] to = sent(i / 4, f, i % 4);
                    if (to != null && label[4 * to[0] + to[2]] < label[i]) {
                        label[i] = label[4 * to[0] + to[2]];
                        changed = true;
                    }
                }
            }
        }
        return label;
    }

    private static int edgeWith(int c, int d) {
        for (int e = 0; e < 6; e++) {
            if (EDGES[e][0] == Math.min(c, d) && EDGES[e][1] == Math.max(c, d)) {
                return e;
            }
        }
        throw new IllegalStateException();
    }

    /** Label of each edge with direction: [6 * b + e][0] along it, [..][1] against it; the label names its least edge. */
    private int[][] arrowLabels() {
        int n = 6 * now.bodies;
        int[][] label = new int[n][2];
        for (int i = 0; i < n; i++) {
            label[i][0] = 2 * i;
            label[i][1] = 2 * i + 1;
        }
        boolean changed = true;
        while (changed) {
            changed = false;
            for (int i = 0; i < n; i++) {
                for (int f = 0; f < 4; f++) {
                    int c = EDGES[i % 6][0];
                    int d = EDGES[i % 6][1];
                    int[] toC = sent(i / 6, f, c);
                    int[] toD = sent(i / 6, f, d);
                    if (toC == null || toD == null) {
                        continue;
                    }
                    int j = 6 * toC[0] + edgeWith(toC[2], toD[2]);
                    int turn = toC[2] < toD[2] ? 0 : 1;
                    for (int way = 0; way < 2; way++) {
                        if (label[j][way ^ turn] < label[i][way]) {
                            label[i][way] = label[j][way ^ turn];
                            changed = true;
                        }
                    }
                }
            }
        }
        return label;
    }

    private int[] lineFirsts() {
        int[][] arrows = arrowLabels();
        int[] first = new int[arrows.length];
        for (int i = 0; i < first.length; i++) {
            first[i] = Math.min(arrows[i][0], arrows[i][1]) / 2;
        }
        return first;
    }

    /** How many different labels there are up to and with this one, minus one: its number in their order. */
    private static int numberOf(int[] firsts, int i) {
        int n = -1;
        for (int j = 0; j <= firsts[i]; j++) {
            if (firsts[j] == j) {
                n++;
            }
        }
        return n;
    }

    private static int classes(int[] firsts) {
        int n = 0;
        for (int j = 0; j < firsts.length; j++) {
            n += firsts[j] == j ? 1 : 0;
        }
        return n;
    }

    private int reversedLines() {
        int[] firsts = lineFirsts();
        int[][] arrows = arrowLabels();
        int n = 0;
        for (int i = 0; i < firsts.length; i++) {
            n += firsts[i] == i && arrows[i][0] == arrows[i][1] ? 1 : 0;
        }
        return n;
    }

    // ---- surfaces

    private static boolean sameSide(int kind, int c, int d) {
        return (SIDE[kind].indexOf('0' + c) >= 0) == (SIDE[kind].indexOf('0' + d) >= 0);
    }

    private static int arcCount(int[][] s, int b, int f, int v) {
        int n = s[b][v];
        for (int kind = 4; kind < 7; kind++) {
            n += sameSide(kind, v, f) ? s[b][kind] : 0;
        }
        return n;
    }

    private static int weightOf(int[][] s, int b, int e) {
        int c = EDGES[e][0];
        int d = EDGES[e][1];
        int n = 0;
        for (int kind = 0; kind < 7; kind++) {
            n += sameSide(kind, c, d) ? 0 : s[b][kind];
        }
        return n;
    }

    boolean matches(int[][] s) {
        for (int b = 0; b < now.bodies; b++) {
            for (int f = 0; f < 4; f++) {
                for (int v = 0; v < 4; v++) {
                    int[] to = sent(b, f, v);
                    if (to != null && arcCount(s, b, f, v) != arcCount(s, to[0], to[1], to[2])) {
                        return false;
                    }
                }
            }
        }
        return true;
    }

    private static boolean crosses(int[][] s) {
        for (int[] n : s) {
            if (n[4] * n[5] + n[4] * n[6] + n[5] * n[6] > 0) {
                return true;
            }
        }
        return false;
    }

    private boolean normal(int[][] s) {
        return matches(s) && !crosses(s);
    }

    private static int total(int[][] s) {
        int n = 0;
        for (int[] row : s) {
            n += Arrays.stream(row).sum();
        }
        return n;
    }

    private int arcsOn(int[][] s, int b, int f) {
        int n = 0;
        for (int v : cornersOf(f)) {
            n += arcCount(s, b, f, v);
        }
        return n;
    }

    private int boundary(int[][] s) {
        int n = 0;
        for (int b = 0; b < now.bodies; b++) {
            for (int f = 0; f < 4; f++) {
                n += gluingAt(b, f) == null ? arcsOn(s, b, f) : 0;
            }
        }
        return n;
    }

    private int euler(int[][] s) {
        int[] firsts = lineFirsts();
        int weights = 0;
        for (int i = 0; i < firsts.length; i++) {
            weights += firsts[i] == i ? weightOf(s, i / 6, i % 6) : 0;
        }
        int arcs = boundary(s);
        for (int[] g : now.gluings) {
            arcs += arcsOn(s, g[2], g[3]);
        }
        return weights - arcs + total(s);
    }

    /** The pieces that an edge meets on its way from corner c to corner d, as {kind, number}. */
    private static List<int[]> along(int[][] s, int b, int c, int d) {
        List<int[]> met = new ArrayList<>();
        for (int i = 0; i < s[b][c]; i++) {
            met.add(new int[] {c, i});
        }
        for (int kind = 4; kind < 7; kind++) {
            if (sameSide(kind, c, d)) {
                continue;
            }
            boolean fromZero = sameSide(kind, c, 0);
            for (int i = 0; i < s[b][kind]; i++) {
                met.add(new int[] {kind, fromZero ? i : s[b][kind] - 1 - i});
            }
        }
        for (int i = s[b][d] - 1; i >= 0; i--) {
            met.add(new int[] {d, i});
        }
        return met;
    }

    /** The pieces of the arcs of face f at corner v from the corner on: they meet both edges of the face at v. */
    private static List<int[]> arcPieces(int[][] s, int b, int f, int v) {
        List<int[]> arcs = new ArrayList<>();
        List<Integer> ends = new ArrayList<>();
        for (int w : cornersOf(f)) {
            if (w != v) {
                ends.add(w);
            }
        }
        for (int[] piece : along(s, b, v, ends.get(0))) {
            if (!sameSide(piece[0], v, ends.get(1))) {
                arcs.add(piece);
            }
        }
        return arcs;
    }

    private static String name(int b, int[] piece) {
        return b + "/" + piece[0] + "/" + piece[1];
    }

    /** Joins of a piece: {other piece, "same" or "turned"}, where turned means that its first side meets the other's second. */
    private Map<String, List<String[]>> joins(int[][] s) {
        Map<String, List<String[]>> joins = new HashMap<>();
        for (int b = 0; b < now.bodies; b++) {
            for (int kind = 0; kind < 7; kind++) {
                for (int i = 0; i < s[b][kind]; i++) {
                    joins.put(name(b, new int[] {kind, i}), new ArrayList<>());
                }
            }
        }
        for (int b = 0; b < now.bodies; b++) {
            for (int f = 0; f < 4; f++) {
                for (int v = 0; v < 4; v++) {
                    int[] to = sent(b, f, v);
                    if (to == null) {
                        continue;
                    }
                    List<int[]> here = arcPieces(s, b, f, v);
                    List<int[]> there = arcPieces(s, to[0], to[1], to[2]);
                    for (int i = 0; i < here.size(); i++) {
                        boolean first = SIDE[here.get(i)[0]].indexOf('0' + v) >= 0;
                        boolean second = SIDE[there.get(i)[0]].indexOf('0' + to[2]) >= 0;
                        joins.get(name(b, here.get(i))).add(
                            new String[] {name(to[0], there.get(i)), first == second ? "same" : "turned"});
                    }
                }
            }
        }
        return joins;
    }

    /** {components, two-sided ones}, by walking over each component and giving each piece a first side. */
    private int[] components(int[][] s) {
        Map<String, List<String[]>> joins = joins(s);
        Map<String, Boolean> turned = new HashMap<>();
        int components = 0;
        int twoSided = 0;
        for (String from : joins.keySet()) {
            if (turned.containsKey(from)) {
                continue;
            }
            components++;
            boolean clash = false;
            ArrayDeque<String> open = new ArrayDeque<>();
            turned.put(from, false);
            open.add(from);
            while (!open.isEmpty()) {
                String at = open.remove();
                for (String[] join : joins.get(at)) {
                    boolean due = turned.get(at) ^ join[1].equals("turned");
                    if (!turned.containsKey(join[0])) {
                        turned.put(join[0], due);
                        open.add(join[0]);
                    } else if (turned.get(join[0]) != due) {
                        clash = true;
                    }
                }
            }
            twoSided += clash ? 0 : 1;
        }
        return new int[] {components, twoSided};
    }

    private int type(int[][] s) {
        if (!normal(s)) {
            return NONE;
        }
        int[] c = components(s);
        if (c[0] != 1) {
            return 0;
        }
        if (boundary(s) > 0) {
            return 1;
        }
        int x = euler(s);
        return x == 2 ? 2 : x == 1 ? 3 : x == 0 && c[1] == 1 ? 4 : x == 0 ? 5 : 6;
    }

    private int splits(int[][] s) {
        if (!normal(s)) {
            return NONE;
        }
        double product = 1;
        for (int[] row : s) {
            for (int n : row) {
                product *= n + 1;
            }
        }
        if (product > 6000) {
            return NONE;
        }
        return someSplit(s, new int[s.length][7], 0) ? 1 : 0;
    }

    private boolean someSplit(int[][] s, int[][] part, int k) {
        if (k == 7 * s.length) {
            int[][] rest = copyOf(s);
            for (int j = 0; j < k; j++) {
                rest[j / 7][j % 7] -= part[j / 7][j % 7];
            }
            return total(part) > 0 && total(rest) > 0 && matches(part) && matches(rest);
        }
        boolean found = false;
        for (int n = 0; n <= s[k / 7][k % 7] && !found; n++) {
            part[k / 7][k % 7] = n;
            found = someSplit(s, part, k + 1);
        }
        part[k / 7][k % 7] = 0;
        return found;
    }

    private int[][] link(int first, int[] labels) {
        int[][] s = new int[now.bodies][7];
        for (int i = 0; i < labels.length; i++) {
            s[i / 4][i % 4] += labels[i] == first ? 1 : 0;
        }
        return s;
    }

    private int goodVertices() {
        int[] labels = cornerLabels();
        int good = 0;
        for (int i = 0; i < labels.length; i++) {
            if (labels[i] == i) {
                int[][] link = link(i, labels);
                if (!normal(link)) {
                    throw new IllegalStateException("a link that is not normal");
                }
                good += components(link)[0] == 1 && euler(link) == (boundary(link) > 0 ? 1 : 2) ? 1 : 0;
            }
        }
        return good;
    }

    private int firstWrong() {
        for (int i = 0; i < book.size(); i++) {
            int[] entry = book.get(i);
            if (!sheet(entry[0]) || !normal(now.surfaces.get(entry[0])) || euler(now.surfaces.get(entry[0])) != entry[1]) {
                return i;
            }
        }
        return NONE;
    }

    // ---- the face

    int told(int what) {
        switch (what) {
            case 0: return now.bodies;
            case 1: return freeFaces();
            case 2: return classes(cornerLabels());
            case 3: return classes(lineFirsts());
            case 4: return reversedLines();
            case 5: return goodVertices();
            case 6: return goodVertices() == classes(cornerLabels()) && reversedLines() == 0 ? 1 : 0;
            case 7: return now.surfaces.size();
            case 8: return classes(cornerLabels()) - classes(lineFirsts()) + 4 * now.bodies - now.gluings.size()
                - now.bodies + 100;
            case 9: return book.size();
            case 10: return firstWrong();
            case 11: return past.size();
            default: return OUTSIDE;
        }
    }

    int wall(int b, int f, int what) {
        if (!body(b) || !in(f, 0, 3)) return UNKNOWN;
        if (!in(what, 0, 2)) return OUTSIDE;
        if (gluingAt(b, f) == null) return NONE;
        int[] corners = cornersOf(f);
        int[] to = sent(b, f, corners[0]);
        if (what < 2) return to[what];
        for (int way = 0; way < 6; way++) {
            boolean all = true;
            for (int v : corners) {
                all &= forward(f, to[1], way, v) == sent(b, f, v)[2];
            }
            if (all) return way;
        }
        throw new IllegalStateException();
    }

    int corner(int b, int v, int what) {
        if (!body(b) || !in(v, 0, 3)) return UNKNOWN;
        if (!in(what, 0, 4)) return OUTSIDE;
        if (what == 0) return numberOf(cornerLabels(), 4 * b + v);
        int[] to = sent(b, what - 1, v);
        return to == null ? NONE : 4 * to[0] + to[2];
    }

    int edge(int b, int e, int what) {
        if (!body(b) || !in(e, 0, 5)) return UNKNOWN;
        if (!in(what, 0, 2)) return OUTSIDE;
        int[] firsts = lineFirsts();
        int i = 6 * b + e;
        if (what == 0) return numberOf(firsts, i);
        if (what == 1) return (int) Arrays.stream(firsts).filter(x -> x == firsts[i]).count();
        return arrowLabels()[i][0] == arrowLabels()[i][1] ? 1 : 0;
    }

    int pieces(int s, int b, int kind) {
        if (!sheet(s) || !body(b)) return UNKNOWN;
        if (!in(kind, 0, 6)) return OUTSIDE;
        return now.surfaces.get(s)[b][kind];
    }

    int surface(int s, int what) {
        if (!sheet(s)) return UNKNOWN;
        if (!in(what, 0, 8)) return OUTSIDE;
        int[][] x = now.surfaces.get(s);
        switch (what) {
            case 0: return matches(x) ? 1 : 0;
            case 1: return crosses(x) ? 1 : 0;
            case 2: return total(x);
            case 3: return normal(x) ? euler(x) + 1000 : NONE;
            case 4: return normal(x) ? components(x)[0] : NONE;
            case 5: return normal(x) ? boundary(x) : NONE;
            case 6: return normal(x) ? components(x)[1] : NONE;
            case 7: return type(x);
            default: return splits(x);
        }
    }

    int weight(int s, int b, int e) {
        return sheet(s) && body(b) && in(e, 0, 5) ? weightOf(now.surfaces.get(s), b, e) : UNKNOWN;
    }

    int arcs(int s, int b, int f, int v) {
        return sheet(s) && body(b) && in(f, 0, 3) && in(v, 0, 3) && f != v
            ? arcCount(now.surfaces.get(s), b, f, v) : UNKNOWN;
    }

    int bodies(int many) {
        if (!in(many, 1, 3)) return OUTSIDE;
        step();
        int was = now.bodies;
        now = new State();
        now.bodies = many;
        return was;
    }

    int glue(int b, int f, int c, int g, int way) {
        if (!body(b) || !in(f, 0, 3) || !body(c) || !in(g, 0, 3)) return UNKNOWN;
        if (!in(way, 0, 5)) return OUTSIDE;
        if (gluingAt(b, f) != null || gluingAt(c, g) != null || b == c && f == g) return NOT;
        step();
        now.gluings.add(new int[] {b, f, c, g, way});
        now.surfaces.clear();
        return freeFaces();
    }

    int free(int b, int f) {
        if (!body(b) || !in(f, 0, 3)) return UNKNOWN;
        if (gluingAt(b, f) == null) return NOT;
        step();
        now.gluings.remove(gluingAt(b, f));
        now.surfaces.clear();
        return freeFaces();
    }

    int put() {
        if (now.surfaces.size() == 6) return FULL;
        step();
        now.surfaces.add(new int[now.bodies][7]);
        return now.surfaces.size() - 1;
    }

    int piece(int s, int b, int kind, int n) {
        if (!sheet(s) || !body(b)) return UNKNOWN;
        if (!in(kind, 0, 6) || !in(n, 0, 20)) return OUTSIDE;
        step();
        int was = now.surfaces.get(s)[b][kind];
        now.surfaces.get(s)[b][kind] = n;
        return was;
    }

    int about(int point) {
        int[] labels = cornerLabels();
        if (!in(point, 0, classes(labels) - 1)) return UNKNOWN;
        if (now.surfaces.size() == 6) return FULL;
        step();
        for (int i = 0; i < labels.length; i++) {
            if (labels[i] == i && numberOf(labels, i) == point) {
                now.surfaces.add(link(i, labels));
            }
        }
        return now.surfaces.size() - 1;
    }

    int add(int s, int u) {
        if (!sheet(s) || !sheet(u)) return UNKNOWN;
        if (now.surfaces.size() == 6) return FULL;
        int[][] sum = copyOf(now.surfaces.get(s));
        for (int b = 0; b < now.bodies; b++) {
            for (int kind = 0; kind < 7; kind++) {
                sum[b][kind] += now.surfaces.get(u)[b][kind];
                if (sum[b][kind] > 20) return NOT;
            }
        }
        if (crosses(sum)) return NOT;
        step();
        now.surfaces.add(sum);
        return now.surfaces.size() - 1;
    }

    int take(int s) {
        if (!sheet(s)) return UNKNOWN;
        step();
        now.surfaces.remove(s);
        return now.surfaces.size();
    }

    private int draw(int n) {
        seed = (1103515245L * seed + 12345) & 0x7fffffffL;
        return (int) ((seed >> 16) % n);
    }

    int drift(int n) {
        if (!in(n, 1, 12)) return OUTSIDE;
        for (int i = 0; i < n; i++) {
            int b = draw(now.bodies);
            int f = draw(4);
            int c = draw(now.bodies);
            int g = draw(4);
            int way = draw(6);
            if (glue(b, f, c, g, way) < 0) {
                step();
            }
        }
        return freeFaces();
    }

    int undo(int n) {
        if (!in(n, 1, 16)) return OUTSIDE;
        if (past.size() < n) return NOT;
        for (int i = 0; i < n; i++) {
            now = past.removeLast();
        }
        return now.surfaces.size();
    }

    int write(int s, int v) {
        if (!sheet(s)) return UNKNOWN;
        if (book.size() == 20) return FULL;
        book.add(new int[] {s, v});
        return book.size();
    }

    int tear() {
        int were = book.size();
        book.clear();
        return were;
    }

    int seed(int v) {
        if (v < 0) return OUTSIDE;
        int was = (int) seed;
        seed = v;
        return was;
    }

    int keep(int i) {
        if (!in(i, 0, 1)) return UNKNOWN;
        images[i] = now.copy();
        imageSeeds[i] = (int) seed;
        past.clear();
        return 1;
    }

    int goBack(int i) {
        if (!in(i, 0, 1)) return UNKNOWN;
        if (images[i] == null) return NOT;
        now = images[i].copy();
        seed = imageSeeds[i];
        past.clear();
        return 1;
    }
}
