import java.util.Arrays;

/**
 * Normal surfaces in triangulated 3-manifolds: up to three tetrahedra are glued along their faces,
 * and surfaces are kept in them as numbers of triangles and quadrilaterals.
 *
 * Numbers used inside: face f of tetrahedron b is 4 * b + f, corner v is 4 * b + v,
 * edge e is 6 * b + e, and the pieces of a kind in it are 7 * b + kind.
 */
public final class PieceSurfaces {
    public static final int NONE = -1, UNKNOWN = -1000000001, OUTSIDE = -1000000002, NOT = -1000000003, FULL = -1000000004;

    private final World world;
    private final Skeleton skeleton;
    private final Survey survey;
    private final Past past;
    private final Book book;
    private final Dice dice;
    private final Image[] images;

    public PieceSurfaces() {
        survey = new Survey();
        world = survey.world;
        skeleton = survey.skeleton;
        past = new Past();
        book = new Book();
        dice = new Dice();
        images = new Image[Shape.IMAGES];
        for (int i = 0; i < images.length; i++) {
            images[i] = new Image();
        }
    }

    // ---- rooms

    public int told(int what) {
        switch (what) {
            case 0: return world.many;
            case 1: return world.freeFaces();
            case 7: return world.count;
            case 9: return book.count;
            case 11: return past.count;
            default: break;
        }
        if (what < 0 || what > 11) {
            return OUTSIDE;
        }
        skeleton.read(world);
        switch (what) {
            case 2: return skeleton.vertices;
            case 3: return skeleton.lines;
            case 4: return skeleton.reversedLines();
            case 5: return survey.goodVertices();
            case 6: return skeleton.reversedLines() == 0 && survey.goodVertices() == skeleton.vertices ? 1 : 0;
            case 8: return survey.wholeCharacteristic() + 100;
            default: return book.firstWrong(world, survey);
        }
    }

    public int wall(int b, int f, int what) {
        if (!hasFace(b, f)) {
            return UNKNOWN;
        }
        if (what < 0 || what > 2) {
            return OUTSIDE;
        }
        int face = 4 * b + f;
        int other = world.partner[face];
        if (other < 0) {
            return NONE;
        }
        switch (what) {
            case 0: return other / 4;
            case 1: return other % 4;
            default: return world.way[face];
        }
    }

    public int corner(int b, int v, int what) {
        if (!hasFace(b, v)) {
            return UNKNOWN;
        }
        if (what < 0 || what > 4) {
            return OUTSIDE;
        }
        if (what > 0) {
            return world.across(4 * b + what - 1, v);
        }
        skeleton.read(world);
        return skeleton.vertexOf[4 * b + v];
    }

    public int edge(int b, int e, int what) {
        if (!hasEdge(b, e)) {
            return UNKNOWN;
        }
        if (what < 0 || what > 2) {
            return OUTSIDE;
        }
        skeleton.read(world);
        int line = skeleton.lineOf[6 * b + e];
        switch (what) {
            case 0: return line;
            case 1: return skeleton.degree[line];
            default: return skeleton.isReversed(line) ? 1 : 0;
        }
    }

    // ---- surfaces

    public int pieces(int s, int b, int kind) {
        if (!hasSurface(s) || !hasBody(b)) {
            return UNKNOWN;
        }
        if (!isKind(kind)) {
            return OUTSIDE;
        }
        return world.sheets[s].numbers[7 * b + kind];
    }

    public int surface(int s, int what) {
        if (!hasSurface(s)) {
            return UNKNOWN;
        }
        if (what < 0 || what > 8) {
            return OUTSIDE;
        }
        Sheet sheet = world.sheets[s];
        switch (what) {
            case 0: return survey.matches(sheet) ? 1 : 0;
            case 1: return sheet.crosses() ? 1 : 0;
            case 2: return sheet.total();
            default: break;
        }
        if (!survey.isNormal(sheet)) {
            return NONE;
        }
        skeleton.read(world);
        return survey.ofNormal(sheet, what);
    }

    public int weight(int s, int b, int e) {
        if (!hasSurface(s) || !hasEdge(b, e)) {
            return UNKNOWN;
        }
        return world.sheets[s].weightOn(b, e);
    }

    public int arcs(int s, int b, int f, int v) {
        if (!hasSurface(s) || !hasFace(b, f) || !hasFace(b, v) || v == f) {
            return UNKNOWN;
        }
        return world.sheets[s].arcsAt(b, f, v);
    }

    // ---- deeds

    public int bodies(int many) {
        if (many < 1 || many > Shape.BODIES) {
            return OUTSIDE;
        }
        past.record(world);
        int previous = world.many;
        world.begin(many);
        return previous;
    }

    public int glue(int b, int f, int c, int g, int way) {
        if (!hasFace(b, f) || !hasFace(c, g)) {
            return UNKNOWN;
        }
        if (way < 0 || way > 5) {
            return OUTSIDE;
        }
        if (!world.canFasten(4 * b + f, 4 * c + g)) {
            return NOT;
        }
        past.record(world);
        world.fasten(4 * b + f, 4 * c + g, way);
        return world.freeFaces();
    }

    public int free(int b, int f) {
        if (!hasFace(b, f)) {
            return UNKNOWN;
        }
        if (world.partner[4 * b + f] < 0) {
            return NOT;
        }
        past.record(world);
        world.loosen(4 * b + f);
        return world.freeFaces();
    }

    public int put() {
        if (world.isFull()) {
            return FULL;
        }
        past.record(world);
        world.sheets[world.count].clear();
        return world.lastGrown();
    }

    public int piece(int s, int b, int kind, int n) {
        if (!hasSurface(s) || !hasBody(b)) {
            return UNKNOWN;
        }
        if (!isKind(kind) || n < 0 || n > Shape.PIECES) {
            return OUTSIDE;
        }
        past.record(world);
        int[] numbers = world.sheets[s].numbers;
        int previous = numbers[7 * b + kind];
        numbers[7 * b + kind] = n;
        return previous;
    }

    public int about(int point) {
        skeleton.read(world);
        if (point < 0 || point >= skeleton.vertices) {
            return UNKNOWN;
        }
        if (world.isFull()) {
            return FULL;
        }
        past.record(world);
        survey.fillLink(point, world.sheets[world.count]);
        return world.lastGrown();
    }

    public int add(int s, int u) {
        if (!hasSurface(s) || !hasSurface(u)) {
            return UNKNOWN;
        }
        if (world.isFull()) {
            return FULL;
        }
        // The row behind the last surface is no part of the state, so the sum may be tried there.
        Sheet sum = world.sheets[world.count];
        sum.fillSum(world.sheets[s], world.sheets[u]);
        if (sum.crosses() || sum.most() > Shape.PIECES) {
            return NOT;
        }
        past.record(world);
        return world.lastGrown();
    }

    public int take(int s) {
        if (!hasSurface(s)) {
            return UNKNOWN;
        }
        past.record(world);
        world.dropSheet(s);
        return world.count;
    }

    public int drift(int n) {
        if (n < 1 || n > 12) {
            return OUTSIDE;
        }
        for (int i = 0; i < n; i++) {
            past.record(world);
            driftOnce();
        }
        return world.freeFaces();
    }

    public int undo(int n) {
        if (n < 1 || n > Shape.STEPS) {
            return OUTSIDE;
        }
        if (n > past.count) {
            return NOT;
        }
        past.restore(n, world);
        return world.count;
    }

    // ---- the book

    public int write(int s, int v) {
        if (!hasSurface(s)) {
            return UNKNOWN;
        }
        if (book.isFull()) {
            return FULL;
        }
        book.enter(s, v);
        return book.count;
    }

    public int tear() {
        int were = book.count;
        book.count = 0;
        return were;
    }

    // ---- images

    public int seed(int v) {
        if (v < 0) {
            return OUTSIDE;
        }
        int previous = dice.state;
        dice.state = v;
        return previous;
    }

    public int keep(int i) {
        if (!hasImage(i)) {
            return UNKNOWN;
        }
        images[i].save(world, dice);
        past.count = 0;
        return 1;
    }

    public int goBack(int i) {
        if (!hasImage(i)) {
            return UNKNOWN;
        }
        if (!images[i].saved) {
            return NOT;
        }
        images[i].load(world, dice);
        past.count = 0;
        return 1;
    }

    private boolean hasBody(int b) {
        return b >= 0 && b < world.many;
    }

    // Corners have the same numbers as faces, so this tells of corners too.
    private boolean hasFace(int b, int f) {
        return hasBody(b) && f >= 0 && f < 4;
    }

    private boolean hasEdge(int b, int e) {
        return hasBody(b) && e >= 0 && e < 6;
    }

    private boolean hasSurface(int s) {
        return s >= 0 && s < world.count;
    }

    private boolean hasImage(int i) {
        return i >= 0 && i < images.length;
    }

    private static boolean isKind(int kind) {
        return kind >= 0 && kind < 7;
    }

    private void driftOnce() {
        // All five numbers are drawn, also if the faces turn out not to be glued.
        int b = dice.below(world.many);
        int f = dice.below(4);
        int c = dice.below(world.many);
        int g = dice.below(4);
        int way = dice.below(6);
        if (world.canFasten(4 * b + f, 4 * c + g)) {
            world.fasten(4 * b + f, 4 * c + g, way);
        }
    }

    /** The document's limits, and the tables of the tetrahedron. */
    private static final class Shape {
        static final int BODIES = 3, SURFACES = 6, PIECES = 20, ENTRIES = 20, STEPS = 16, IMAGES = 2, SPLIT_LIMIT = 6000;
        static final int FACES = 4 * BODIES, EDGES = 6 * BODIES, KINDS = 7 * BODIES;

        /** For each way: the place in the second face of the first, second and third corner of the first face. */
        static final int[] WAYS = {0, 1, 2, 0, 2, 1, 1, 0, 2, 1, 2, 0, 2, 0, 1, 2, 1, 0};
        /** The way as it is seen from the second face. */
        static final int[] BACK = {0, 1, 2, 4, 3, 5};
        /** The corners of each edge. */
        static final int[] LOW = {0, 0, 0, 1, 1, 2};
        static final int[] HIGH = {1, 2, 3, 2, 3, 3};
        /** The edge with the corners c and d, at 4 * c + d; no edge has the same corner twice. */
        static final int[] EDGE = {-1, 0, 1, 2, 0, -1, 3, 4, 1, 3, -1, 5, 2, 4, 5, -1};

        /** The quadrilaterals that have two different corners (or a corner and a face) on the same side. */
        static int together(int c, int d) {
            return 3 + (c ^ d);
        }
    }

    /** The numbers of pieces of one surface. */
    private static final class Sheet {
        final int[] numbers;

        Sheet() {
            numbers = new int[Shape.KINDS];
        }

        void clear() {
            Arrays.fill(numbers, 0);
        }

        void copyFrom(Sheet other) {
            System.arraycopy(other.numbers, 0, numbers, 0, numbers.length);
        }

        void fillSum(Sheet one, Sheet two) {
            for (int k = 0; k < Shape.KINDS; k++) {
                numbers[k] = one.numbers[k] + two.numbers[k];
            }
        }

        int total() {
            int sum = 0;
            for (int k = 0; k < Shape.KINDS; k++) {
                sum += numbers[k];
            }
            return sum;
        }

        int most() {
            int most = 0;
            for (int k = 0; k < Shape.KINDS; k++) {
                most = Math.max(most, numbers[k]);
            }
            return most;
        }

        boolean crosses() {
            for (int b = 0; b < Shape.BODIES; b++) {
                int used = 0;
                for (int kind = 4; kind < 7; kind++) {
                    used += numbers[7 * b + kind] > 0 ? 1 : 0;
                }
                if (used > 1) {
                    return true;
                }
            }
            return false;
        }

        int arcsAt(int b, int f, int v) {
            return numbers[7 * b + v] + numbers[7 * b + Shape.together(v, f)];
        }

        int arcsOn(int b, int f) {
            int sum = 0;
            for (int v = 0; v < 4; v++) {
                sum += v == f ? 0 : arcsAt(b, f, v);
            }
            return sum;
        }

        int weightOn(int b, int e) {
            int c = Shape.LOW[e];
            int d = Shape.HIGH[e];
            int sum = numbers[7 * b + c] + numbers[7 * b + d];
            for (int kind = 4; kind < 7; kind++) {
                sum += kind == Shape.together(c, d) ? 0 : numbers[7 * b + kind];
            }
            return sum;
        }
    }

    /** What a step changes and undoing restores: the tetrahedra, the gluings and the surfaces. */
    private static final class World {
        int many;
        int count;
        /** For each face the one to which it is glued, or NONE, and the way with this face as the first one. */
        final int[] partner;
        final int[] way;
        /** The first rows are the surfaces; what the rows behind them hold means nothing. */
        final Sheet[] sheets;

        World() {
            partner = new int[Shape.FACES];
            way = new int[Shape.FACES];
            sheets = new Sheet[Shape.SURFACES];
            for (int s = 0; s < sheets.length; s++) {
                sheets[s] = new Sheet();
            }
            many = 1;
            Arrays.fill(partner, NONE);
        }

        void begin(int bodies) {
            many = bodies;
            count = 0;
            Arrays.fill(partner, NONE);
        }

        void copyFrom(World other) {
            many = other.many;
            count = other.count;
            System.arraycopy(other.partner, 0, partner, 0, partner.length);
            System.arraycopy(other.way, 0, way, 0, way.length);
            for (int s = 0; s < count; s++) {
                sheets[s].copyFrom(other.sheets[s]);
            }
        }

        int faces() {
            return 4 * many;
        }

        int freeFaces() {
            int sum = 0;
            for (int face = 0; face < faces(); face++) {
                sum += partner[face] < 0 ? 1 : 0;
            }
            return sum;
        }

        boolean canFasten(int face, int other) {
            return face != other && partner[face] < 0 && partner[other] < 0;
        }

        void fasten(int face, int other, int how) {
            partner[face] = other;
            partner[other] = face;
            way[face] = how;
            way[other] = Shape.BACK[how];
            count = 0;
        }

        void loosen(int face) {
            int other = partner[face];
            if (other >= 0) {
                partner[face] = NONE;
                partner[other] = NONE;
                count = 0;
            }
        }

        /** Of two faces that are glued, true for one: each gluing is looked at once. */
        boolean leads(int face) {
            return partner[face] > face;
        }

        /** The corner to which corner v is glued by a face of its tetrahedron, or NONE. */
        int across(int face, int v) {
            int f = face % 4;
            int other = partner[face];
            if (v == f || other < 0) {
                return NONE;
            }
            int place = Shape.WAYS[3 * way[face] + (v < f ? v : v - 1)];
            int g = other % 4;
            return other - g + (place < g ? place : place + 1);
        }

        boolean isFull() {
            return count >= Shape.SURFACES;
        }

        /** Makes the first row behind the surfaces a surface; returns its number. */
        int lastGrown() {
            count++;
            return count - 1;
        }

        void dropSheet(int s) {
            for (int i = s; i + 1 < count; i++) {
                sheets[i].copyFrom(sheets[i + 1]);
            }
            count--;
        }
    }

    /** Things from 0 on, some of which are joined to one another; the least of each class stands for it. */
    private static final class Classes {
        final int[] up;
        int size;

        Classes(int most) {
            up = new int[most];
        }

        void begin(int things) {
            size = Math.min(things, up.length);
            for (int i = 0; i < size; i++) {
                up[i] = i;
            }
        }

        int least(int thing) {
            int at = thing;
            for (int i = 0; i < size && up[at] != at; i++) {
                up[at] = up[up[at]];
                at = up[at];
            }
            return at;
        }

        void join(int one, int two) {
            int a = least(one);
            int b = least(two);
            if (a < b) {
                up[b] = a;
            } else {
                up[a] = b;
            }
        }

        int countClasses() {
            int sum = 0;
            for (int i = 0; i < size; i++) {
                sum += up[i] == i ? 1 : 0;
            }
            return sum;
        }

        /** Writes the number of each thing's class, in the order of their first things; returns how many there are. */
        int numberThem(int[] classOf) {
            int next = 0;
            for (int i = 0; i < size; i++) {
                int first = least(i);
                if (first == i) {
                    classOf[i] = next;
                    next++;
                } else {
                    classOf[i] = classOf[first];
                }
            }
            return next;
        }
    }

    /** The vertices and lines of the gluings that were read last. */
    private static final class Skeleton {
        final Classes corners;
        final Classes edges;
        /** Edges with a direction: the one from corner c to d of its tetrahedron is 4 * c + d, with c as a corner of all. */
        final Classes arrows;
        final int[] vertexOf;
        final int[] lineOf;
        final int[] degree;
        final int[] firstEdge;
        int vertices;
        int lines;

        Skeleton() {
            corners = new Classes(Shape.FACES);
            edges = new Classes(Shape.EDGES);
            arrows = new Classes(4 * Shape.FACES);
            vertexOf = new int[Shape.FACES];
            lineOf = new int[Shape.EDGES];
            degree = new int[Shape.EDGES];
            firstEdge = new int[Shape.EDGES];
        }

        void read(World world) {
            corners.begin(4 * world.many);
            edges.begin(6 * world.many);
            arrows.begin(16 * world.many);
            for (int face = 0; face < world.faces(); face++) {
                if (world.leads(face)) {
                    joinFaces(world, face);
                }
            }
            vertices = corners.numberThem(vertexOf);
            lines = edges.numberThem(lineOf);
            measureLines(6 * world.many);
        }

        private void joinFaces(World world, int face) {
            int f = face % 4;
            for (int v = 0; v < 4; v++) {
                int here = face - f + v;
                int there = world.across(face, v);
                if (there < 0) {
                    continue;
                }
                corners.join(here, there);
                for (int u = 0; u < 4; u++) {
                    int end = world.across(face, u);
                    if (u != v && end >= 0) {
                        joinArrows(4 * here + u, 4 * there + end % 4);
                    }
                }
            }
        }

        private void joinArrows(int one, int two) {
            arrows.join(one, two);
            edges.join(edgeOf(one), edgeOf(two));
        }

        private static int edgeOf(int arrow) {
            return 6 * (arrow / 16) + Shape.EDGE[arrow % 16];
        }

        private void measureLines(int count) {
            Arrays.fill(degree, 0);
            for (int e = count - 1; e >= 0; e--) {
                degree[lineOf[e]]++;
                firstEdge[lineOf[e]] = e;
            }
        }

        boolean isReversed(int line) {
            int e = firstEdge[line];
            int from = 16 * (e / 6);
            int c = Shape.LOW[e % 6];
            int d = Shape.HIGH[e % 6];
            return arrows.least(from + 4 * c + d) == arrows.least(from + 4 * d + c);
        }

        int reversedLines() {
            int sum = 0;
            for (int line = 0; line < lines; line++) {
                sum += isReversed(line) ? 1 : 0;
            }
            return sum;
        }
    }

    /** The matching conditions of some gluings: at each corner of a glued face, as many arcs as at its partner. */
    private static final class Matching {
        /** Four for each condition: the triangles and quadrilaterals of the one corner, then those of the other. */
        final int[] terms;
        int count;

        Matching() {
            // 3 corners for each of the gluings, which are half as many as faces
            terms = new int[4 * 3 * Shape.FACES / 2];
        }

        /** Reads the conditions that can fail for a surface with no more pieces of any kind than the given one. */
        void read(World world, Sheet bound) {
            count = 0;
            for (int face = 0; face < world.faces(); face++) {
                for (int v = 0; v < 4; v++) {
                    int there = world.across(face, v);
                    if (world.leads(face) && there >= 0) {
                        enter(face, v, there, world.partner[face], bound);
                    }
                }
            }
        }

        private void enter(int face, int v, int there, int other, Sheet bound) {
            int at = 4 * count;
            if (at + 3 >= terms.length) {
                return;
            }
            int b = face / 4;
            int c = other / 4;
            terms[at] = 7 * b + v;
            terms[at + 1] = 7 * b + Shape.together(v, face % 4);
            terms[at + 2] = 7 * c + there % 4;
            terms[at + 3] = 7 * c + Shape.together(there % 4, other % 4);
            int[] most = bound.numbers;
            if (most[terms[at]] + most[terms[at + 1]] + most[terms[at + 2]] + most[terms[at + 3]] > 0) {
                count++;
            }
        }

        boolean holds(Sheet sheet) {
            int[] numbers = sheet.numbers;
            for (int at = 0; at < 4 * count; at += 4) {
                if (numbers[terms[at]] + numbers[terms[at + 1]] != numbers[terms[at + 2]] + numbers[terms[at + 3]]) {
                    return false;
                }
            }
            return true;
        }
    }

    /** The world as it is now, and what can be seen in it; the skeleton must have been read since the last change. */
    private static final class Survey {
        final World world;
        final Skeleton skeleton;
        final Matching matching;
        final Classes joined;
        /** Two sides for each piece: 2 * piece is the one towards the corner of a triangle, or with corner 0. */
        final Classes sides;
        /** The first piece of each kind. */
        final int[] start;
        final Sheet link;
        final Sheet part;
        /** The kinds of which the surface that may split has pieces. */
        final int[] used;
        int usedCount;
        int components;
        int twoSided;

        Survey() {
            world = new World();
            skeleton = new Skeleton();
            matching = new Matching();
            joined = new Classes(Shape.KINDS * Shape.PIECES);
            sides = new Classes(2 * Shape.KINDS * Shape.PIECES);
            start = new int[Shape.KINDS];
            link = new Sheet();
            part = new Sheet();
            used = new int[Shape.KINDS];
        }

        boolean matches(Sheet sheet) {
            matching.read(world, sheet);
            return matching.holds(sheet);
        }

        boolean isNormal(Sheet sheet) {
            return !sheet.crosses() && matches(sheet);
        }

        /** The properties 3 to 8 of a surface that is normal. */
        int ofNormal(Sheet sheet, int what) {
            switch (what) {
                case 3: return characteristic(sheet) + 1000;
                case 5: return boundary(sheet);
                case 7: return type(sheet);
                case 8: return splits(sheet);
                default: break;
            }
            trace(sheet);
            return what == 4 ? components : twoSided;
        }

        int characteristic(Sheet sheet) {
            int sum = sheet.total();
            for (int line = 0; line < skeleton.lines; line++) {
                int e = skeleton.firstEdge[line];
                sum += sheet.weightOn(e / 6, e % 6);
            }
            for (int face = 0; face < world.faces(); face++) {
                if (world.partner[face] < 0 || world.leads(face)) {
                    sum -= sheet.arcsOn(face / 4, face % 4);
                }
            }
            return sum;
        }

        int boundary(Sheet sheet) {
            int sum = 0;
            for (int face = 0; face < world.faces(); face++) {
                sum += world.partner[face] < 0 ? sheet.arcsOn(face / 4, face % 4) : 0;
            }
            return sum;
        }

        private int type(Sheet sheet) {
            trace(sheet);
            if (components != 1) {
                return 0;
            }
            if (boundary(sheet) > 0) {
                return 1;
            }
            switch (characteristic(sheet)) {
                case 2: return 2;
                case 1: return 3;
                case 0: return twoSided == 1 ? 4 : 5;
                default: return 6;
            }
        }

        /** Finds the components of a normal surface, and how many of them are two-sided. */
        private void trace(Sheet sheet) {
            int total = 0;
            for (int k = 0; k < Shape.KINDS; k++) {
                start[k] = total;
                total += sheet.numbers[k];
            }
            joined.begin(total);
            sides.begin(2 * total);
            for (int face = 0; face < world.faces(); face++) {
                if (world.leads(face)) {
                    joinPieces(sheet, face);
                }
            }
            components = joined.countClasses();
            // The sides of a component form two classes if it is two-sided, and otherwise one.
            twoSided = sides.countClasses() - components;
        }

        private void joinPieces(Sheet sheet, int face) {
            for (int v = 0; v < 4; v++) {
                int there = world.across(face, v);
                if (there < 0) {
                    continue;
                }
                int arcs = sheet.arcsAt(face / 4, face % 4, v);
                for (int i = 0; i < arcs; i++) {
                    int one = sideAt(sheet, face, v, i);
                    int two = sideAt(sheet, world.partner[face], there % 4, i);
                    joined.join(one / 2, two / 2);
                    sides.join(one, two);
                    sides.join(one ^ 1, two ^ 1);
                }
            }
        }

        /** The side towards corner v of the piece to which arc i at this corner of the face belongs. */
        private int sideAt(Sheet sheet, int face, int v, int i) {
            int b = face / 4;
            int f = face % 4;
            int triangles = sheet.numbers[7 * b + v];
            if (i < triangles) {
                return 2 * (start[7 * b + v] + i);
            }
            int kind = 7 * b + Shape.together(v, f);
            int place = i - triangles;
            // These quadrilaterals have v and f on one side, which is the one with corner 0 if either is 0.
            if (v == 0 || f == 0) {
                return 2 * (start[kind] + place);
            }
            return 2 * (start[kind] + sheet.numbers[kind] - 1 - place) + 1;
        }

        void fillLink(int point, Sheet sheet) {
            sheet.clear();
            for (int corner = 0; corner < 4 * world.many; corner++) {
                if (skeleton.vertexOf[corner] == point) {
                    sheet.numbers[7 * (corner / 4) + corner % 4] = 1;
                }
            }
        }

        private boolean isGood(int point) {
            fillLink(point, link);
            trace(link);
            int due = boundary(link) > 0 ? 1 : 2;
            return components == 1 && characteristic(link) == due;
        }

        int goodVertices() {
            int sum = 0;
            for (int point = 0; point < skeleton.vertices; point++) {
                sum += isGood(point) ? 1 : 0;
            }
            return sum;
        }

        /** The vertices, minus the lines, plus the faces (of two that are glued, one), minus the tetrahedra. */
        int wholeCharacteristic() {
            int faces = (world.faces() + world.freeFaces()) / 2;
            return skeleton.vertices - skeleton.lines + faces - world.many;
        }

        /** Whether a normal surface splits, 1 or 0; NONE if it has too many possible parts. */
        private int splits(Sheet sheet) {
            int possible = countParts(sheet);
            if (possible > Shape.SPLIT_LIMIT) {
                return NONE;
            }
            matching.read(world, sheet);
            listUsed(sheet);
            part.clear();
            // The conditions are linear, so if a part matches, the rest does; and the rest of part i is part
            // possible - 1 - i. So half of the parts are enough, without the empty one and the whole.
            for (int i = 1; 2 * i < possible; i++) {
                nextPart(sheet);
                if (matching.holds(part)) {
                    return 1;
                }
            }
            return 0;
        }

        private static int countParts(Sheet sheet) {
            int product = 1;
            for (int k = 0; k < Shape.KINDS && product <= Shape.SPLIT_LIMIT; k++) {
                product *= sheet.numbers[k] + 1;
            }
            return product;
        }

        private void listUsed(Sheet sheet) {
            usedCount = 0;
            for (int k = 0; k < Shape.KINDS; k++) {
                if (sheet.numbers[k] > 0) {
                    used[usedCount] = k;
                    usedCount++;
                }
            }
        }

        /** Counts the part up by one, the pieces of the first kind being the lowest digit. */
        private void nextPart(Sheet whole) {
            for (int i = 0; i < usedCount; i++) {
                int k = used[i];
                if (part.numbers[k] < whole.numbers[k]) {
                    part.numbers[k]++;
                    return;
                }
                part.numbers[k] = 0;
            }
        }
    }

    /** The states before the latest steps, in a ring. */
    private static final class Past {
        final World[] ring;
        int next;
        int count;

        Past() {
            ring = new World[Shape.STEPS];
            for (int i = 0; i < ring.length; i++) {
                ring[i] = new World();
            }
        }

        void record(World world) {
            ring[next].copyFrom(world);
            next = (next + 1) % Shape.STEPS;
            count = Math.min(count + 1, Shape.STEPS);
        }

        void restore(int steps, World world) {
            next = Math.floorMod(next - steps, Shape.STEPS);
            count -= steps;
            world.copyFrom(ring[next]);
        }
    }

    /** What is said of the Euler characteristics of surfaces; undoing and images leave it as it is. */
    private static final class Book {
        final int[] surfaces;
        final int[] values;
        int count;

        Book() {
            surfaces = new int[Shape.ENTRIES];
            values = new int[Shape.ENTRIES];
        }

        boolean isFull() {
            return count >= Shape.ENTRIES;
        }

        void enter(int s, int v) {
            surfaces[count] = s;
            values[count] = v;
            count++;
        }

        int firstWrong(World world, Survey survey) {
            for (int i = 0; i < count; i++) {
                if (!isTrue(i, world, survey)) {
                    return i;
                }
            }
            return NONE;
        }

        private boolean isTrue(int i, World world, Survey survey) {
            if (surfaces[i] >= world.count) {
                return false;
            }
            Sheet sheet = world.sheets[surfaces[i]];
            return survey.isNormal(sheet) && survey.characteristic(sheet) == values[i];
        }
    }

    /** The seed, and the numbers drawn from it. */
    private static final class Dice {
        int state;

        int below(int n) {
            state = (int) ((1103515245L * state + 12345L) % 2147483648L);
            return n > 0 ? state / 65536 % n : 0;
        }
    }

    /** A saved state. */
    private static final class Image {
        final World world;
        int state;
        boolean saved;

        Image() {
            world = new World();
        }

        void save(World now, Dice dice) {
            world.copyFrom(now);
            state = dice.state;
            saved = true;
        }

        void load(World now, Dice dice) {
            now.copyFrom(world);
            dice.state = state;
        }
    }
}
