import java.util.Arrays;

/** Sections 2 and 3: every head, every pattern of quarters, and at which byte a row of bytes is wrong. */
final class TreeEdgesTest {
    private static final int[] SIZES = {8, 32, 128, 512, 2048};

    // Trees that are right, by their levels.
    private static final int[][][] TREES = {
        {},
        {{0}, {85}, {4}, {2, 9}, {10, 7, 8}, {46, 7, 8}, {170, 7, 8, 7, 8}, {254, 1}},
        {{0}, {85}, {16}, {2, 1}, {10, 1, 2, 7}, {142, 6, 7, 234, 1, 2, 1}},
        {{0}, {85}, {64}, {14, 10, 4, 16}, {10, 2, 2, 9, 2, 2, 8}, {128, 128, 128, 128}},
        {{0}, {85}, {1}, {2, 2, 2, 2, 9}, {10, 2, 2, 2, 9, 8, 2, 2, 9}, {128, 128, 128, 128, 128}},
    };

    public static void main(String[] args) {
        for (int level = 1; level <= 4; level++) {
            patterns(level);
            headsOfTheMap(level);
            fewerAndMoreBytes(level);
        }
        bitsOfALeaf();
        blocks();
        twins();
        headsOfQuarters();
        headsBehindTwins();
        leaves();
        leavesThatEndQuarters();
        theLongestTree();
        Checks.finish();
    }

    // ---- section 2

    /** Each quarter empty, full, or with one of two trees: the codes are as section 2 tells them. */
    private static void patterns(int level) {
        int quarter = SIZES[level] / 4;
        for (int pattern = 0; pattern < 256; pattern++) {
            QuarterMaps x = Checks.loaded("level " + level + ";map a");
            int head = 0;
            int told = 0;
            int last = -1;
            for (int i = 0; i < 4; i++) {
                int kind = pattern >> 2 * i & 3;
                if (kind == 1) {
                    x.fill(0, i * quarter, i * quarter + quarter - 1, 1);
                } else if (kind > 1) {
                    x.fill(0, i * quarter + kind, i * quarter + kind, 1);
                }
                int code = kind < 2 ? kind : kind == last ? 3 : 2;
                last = kind < 2 ? last : kind;
                told += code == 2 ? 1 : 0;
                head |= code << 2 * i;
            }
            int want = head;
            int trees = told;
            String name = "pattern " + pattern + " at level " + level;
            Checks.due("head of " + name, want, () -> x.byteAt(0, 0));
            Checks.due("bytes of " + name, 1 + trees * level, () -> x.bytes(0));
            Checks.due("heads of " + name, 1 + trees * (level - 1), () -> x.parts(0, 0));
            Checks.due("leaves of " + name, trees, () -> x.parts(0, 1));
            for (int i = 0; i < 4; i++) {
                int at = i;
                int code = want >> 2 * i & 3;
                Checks.due("code of " + name, code, () -> x.block(0, level - 1, at, 0));
                Checks.due("told in " + name, code == 2, () -> x.block(0, level - 1, at, 2) >= 0);
            }
        }
    }

    /** The bit at the position k counts 2 to the power of k. */
    private static void bitsOfALeaf() {
        for (int k = 0; k < 8; k++) {
            int at = 8 + k;
            QuarterMaps x = Checks.loaded("level 1;map a;fill a " + at + " " + at);
            Checks.due("bit " + at, "8 " + (1 << k), () -> Checks.treeOf(x, 0));
            QuarterMaps y = Checks.loaded("level 1;map a;tree a 8 " + (1 << k));
            Checks.due("tree " + (1 << k), at, () -> y.select(0, 0));
        }
    }

    /** Blocks that are told, those left out, and those inside a block that is left out. */
    private static void blocks() {
        QuarterMaps x = Checks.loaded("level 3;map a;tree a 14 10 4 16");
        int[][] due = {{3, 0, -1, 32, 0, 4}, {2, 0, 2, 16, 1, 3}, {2, 1, 3, 16, -1, -1}, {2, 2, 0, 0, -1, -1},
            {1, 0, 2, 8, 2, 1}, {1, 1, 2, 8, 3, 1}, {1, 2, 0, 0, -1, -1}, {1, 4, -1, 8, -1, -1},
            {1, 6, -1, 0, -1, -1}, {1, 8, -1, 0, -1, -1}, {0, 0, 0, 0, -1, -1}, {0, 1, 1, 8, -1, -1},
            {0, 5, 0, 0, -1, -1}, {0, 6, 1, 8, -1, -1}, {0, 8, -1, 0, -1, -1}, {0, 17, -1, 8, -1, -1},
            {0, 63, -1, 0, -1, -1}};
        for (int[] d : due) {
            for (int what = 0; what < 4; what++) {
                int asked = what;
                Checks.due("block " + d[0] + " " + d[1] + " " + what, d[2 + what], () -> x.block(0, d[0], d[1], asked));
            }
        }
        int[] parts = {4, 0, 10, 2, 3, 1};
        for (int what = 0; what < 6; what++) {
            int asked = what;
            Checks.due("parts " + what, parts[what], () -> x.parts(0, asked));
        }
        int[] told = {256, 128, 64, 64};
        for (int i = 0; i < 4; i++) {
            int asked = i;
            Checks.due("told by " + i, told[i], () -> x.told(0, asked));
        }
        Checks.due("no byte tells more", Checks.INDEX, () -> x.told(0, 4));
        Checks.due("lowest", 1, () -> x.lowest(0));
        Checks.due("biggest", "256 8 128", () -> x.biggest(0, 0) + " " + x.biggest(0, 1) + " " + x.biggest(0, 3));
        int[][] tellers = {{0, 2}, {31, 2}, {32, 3}, {63, 3}, {64, 1}, {127, 1}, {128, 2}, {159, 2}, {160, 3},
            {191, 3}, {192, 1}, {255, 1}, {256, 0}, {511, 0}};
        for (int[] pair : tellers) {
            Checks.due("teller of " + pair[0], pair[1], () -> x.teller(0, pair[0]));
        }
        Checks.due("its text", 21, () -> x.writeTree(0));
        Checks.due("its signs", "(((-+--)(--+-)--)=--)", () -> Checks.writtenText(x, x.writeTree(0)));
    }

    /** A code 3 means the last quarter ahead with the code 2, over all that lies between. */
    private static void twins() {
        dueTwins("238 9 5", "1 1 2 2", "9 9 5 5");
        dueTwins("254 9", "1 1 1 1", "9 9 9 9");
        dueTwins("114 9", "1 0 1 0", "9 0 9 255");
        dueTwins("202 9 5", "1 2 0 2", "9 5 0 5");
        dueTwins("198 9", "1 0 0 1", "9 255 0 9");
        dueTwins("170 9 5 9 5", "1 2 3 4", "9 5 9 5");
        dueTwins("162 9 5 9", "1 0 2 3", "9 0 5 9");
        dueTwins("192", "throws", "0 0 0 0");
    }

    private static void dueTwins(String tree, String tellers, String leaves) {
        if (tellers.equals("throws")) {
            Checks.dueError("level 1;map a;tree a " + tree, 5, 21);
            return;
        }
        QuarterMaps x = Checks.loaded("level 1;map a;tree a " + tree);
        for (int i = 0; i < 4; i++) {
            int at = i;
            int leaf = Integer.parseInt(leaves.split(" ")[i]);
            Checks.due("teller " + i + " of " + tree, tellers.split(" ")[i], () -> x.teller(0, 8 * at + 7));
            Checks.due("leaf " + i + " of " + tree, Integer.toBinaryString(256 + leaf).substring(1),
                () -> new StringBuilder(Checks.bitsOf(x, 0, 8 * at, 8 * at + 7)).reverse());
        }
        Checks.due("the tree of these bits", tree, () -> Checks.treeOf(x, 0));
    }

    // ---- section 3

    /** The same bytes as checks, read and a tree line take them; the position is -1 if they are right. */
    private static void dueReading(int level, int position, int... bytes) {
        String name = Arrays.toString(bytes) + " at level " + level;
        QuarterMaps x = Checks.loaded("level " + level + ";map a;flip a 3 3");
        int last = SIZES[level] - 1;
        int n = Checks.put(x, bytes);
        Checks.due("checks of " + name, position, () -> x.checks(n));
        Checks.put(x, bytes);
        if (position < 0) {
            String answer = Checks.answerOf(() -> x.read(0, n));
            Checks.due("read of " + name, answer, () -> x.ones(0, 0, last));
            Checks.due("its tree", spaced(bytes), () -> Checks.treeOf(x, 0));
        } else {
            Checks.due("read of " + name, Checks.ARGUMENT, () -> x.read(0, n));
            Checks.due("the map stays", "3 1", () -> x.select(0, 0) + " " + x.ones(0, 0, last));
        }
        if (n > 0) {
            dueLine(level, position, bytes);
        }
    }

    private static String spaced(int[] bytes) {
        return Arrays.toString(bytes).replaceAll("[\\[,\\]]", "");
    }

    private static void dueLine(int level, int position, int[] bytes) {
        String start = "level " + level + ";map a;tree a ";
        String line = start + spaced(bytes);
        if (position < 0) {
            Checks.due(line, 1, () -> Checks.loaded(line).count(0));
            return;
        }
        int ahead = position == 0 ? start.length()
            : start.length() + 1 + spaced(Arrays.copyOf(bytes, position)).length();
        Checks.dueError(line, 5, position == bytes.length ? line.length() : ahead);
    }

    private static int trees(int head) {
        int trees = 0;
        for (int i = 0; i < 4; i++) {
            trees += (head >> 2 * i & 3) == 2 ? 1 : 0;
        }
        return trees;
    }

    private static boolean lacksTwin(int head) {
        boolean seen = false;
        for (int i = 0; i < 4; i++) {
            int code = head >> 2 * i & 3;
            if (code == 3 && !seen) {
                return true;
            }
            seen |= code == 2;
        }
        return false;
    }

    /** A head as the last byte: wrong there, or too few bytes behind it, or the end. */
    private static void dueHead(int level, boolean wrong, int... bytes) {
        int at = bytes.length - 1;
        dueReading(level, wrong ? at : trees(bytes[at]) > 0 ? at + 1 : -1, bytes);
    }

    private static void headsOfTheMap(int level) {
        for (int head = 0; head < 256; head++) {
            dueHead(level, lacksTwin(head), head);
        }
    }

    /** A quarter with a head is none that is empty or full. */
    private static void headsOfQuarters() {
        for (int head = 0; head < 256; head++) {
            boolean wrong = lacksTwin(head) || head == 0 || head == 85;
            dueHead(2, wrong, 2, head);
            dueHead(2, wrong, 128, head);
            dueHead(3, wrong, 2, 2, head);
            dueHead(4, wrong, 128, 2, 8, head);
            // Wrong at the head, not at the 0 behind it.
            dueReading(3, wrong ? 2 : 3, 10, 2, head, 0);
        }
    }

    /** A quarter that is whole with its head has not the bits of the last one ahead of it with a tree. */
    private static void headsBehindTwins() {
        for (int head = 0; head < 256; head++) {
            boolean wrong = lacksTwin(head) || head == 0 || head == 85;
            dueHead(2, wrong || head == 4, 10, 4, head);
            // The last one with a tree counts, and not the first one.
            dueHead(2, wrong || head == 16, 42, 4, 16, head);
            // One that is empty, full, or the same again lies between.
            dueHead(2, wrong || head == 4, 34, 4, head);
            dueHead(2, wrong || head == 4, 38, 4, head);
            dueHead(2, wrong || head == 4, 46, 4, head);
            // The quarter round it has the same bits as that ahead of it; then not at the same place.
            dueHead(3, wrong || head == 4, 10, 2, 4, 2, head);
            dueHead(3, wrong, 10, 2, 4, 8, head);
            dueHead(4, wrong || head == 4, 10, 2, 2, 4, 2, 2, head);
        }
    }

    /** A leaf as the last byte that a tree needs, with those that are wrong there beside 0 and 255. */
    private static void dueLeaves(int level, int wrong, int other, int... ahead) {
        int[] bytes = Arrays.copyOf(ahead, ahead.length + 1);
        for (int leaf = 0; leaf < 256; leaf++) {
            bytes[ahead.length] = leaf;
            boolean stops = leaf == 0 || leaf == 255 || leaf == wrong || leaf == other;
            dueReading(level, stops ? ahead.length : -1, bytes);
        }
    }

    private static void leaves() {
        dueLeaves(1, -1, -1, 2);
        dueLeaves(1, -1, -1, 128);
        dueLeaves(1, 7, -1, 10, 7);
        dueLeaves(1, 8, -1, 42, 7, 8);
        dueLeaves(1, 7, -1, 34, 7);
        dueLeaves(1, 7, -1, 38, 7);
        dueLeaves(1, 7, -1, 46, 7);
        dueLeaves(1, 8, -1, 138, 7, 8);
        dueLeaves(1, 7, -1, 170, 7, 8, 7);
        dueLeaves(2, 7, -1, 2, 10, 7);
        dueLeaves(4, -1, -1, 2, 2, 2, 2);
        // Further bytes are due, so the quarter need not be another one yet.
        dueReading(2, 5, 10, 2, 7, 10, 7);
        dueReading(2, 4, 10, 2, 7, 10, 0);
        dueReading(2, 4, 10, 2, 7, 10, 255);
    }

    /** A leaf with which one or more quarters are whole that have the bits of one ahead of them. */
    private static void leavesThatEndQuarters() {
        dueLeaves(2, 7, -1, 10, 2, 7, 2);
        dueLeaves(2, -1, -1, 10, 2, 7, 8);
        dueLeaves(2, 8, -1, 42, 2, 7, 2, 8, 2);
        dueLeaves(2, 7, -1, 34, 2, 7, 2);
        dueLeaves(2, 7, -1, 46, 2, 7, 2);
        dueLeaves(2, 7, 9, 10, 10, 9, 7, 10, 9);
        dueLeaves(3, 9, -1, 2, 10, 2, 9, 2);
        dueLeaves(3, 9, -1, 10, 2, 2, 9, 2, 2);
        dueLeaves(3, 7, 9, 10, 2, 10, 9, 7, 2, 10, 9);
        dueLeaves(4, 9, -1, 10, 2, 2, 2, 9, 2, 2, 2);
        dueLeaves(4, -1, -1, 10, 2, 2, 2, 9, 2, 8, 2);
        // Inside a quarter that is not whole yet.
        dueReading(3, 7, 10, 2, 2, 9, 2, 10, 9);
    }

    /** Too few bytes are wrong behind the last one, too many at the first of those. */
    private static void fewerAndMoreBytes(int level) {
        for (int[] tree : TREES[level]) {
            dueReading(level, -1, tree);
            for (int n = 0; n < tree.length; n++) {
                dueReading(level, n, Arrays.copyOf(tree, n));
            }
            int[] more = Arrays.copyOf(tree, tree.length + 1);
            for (int value = 0; value < 256; value++) {
                more[tree.length] = value;
                dueReading(level, tree.length, more);
            }
            dueReading(level, tree.length, Arrays.copyOf(more, tree.length + 5));
        }
    }

    private static void theLongestTree() {
        QuarterMaps x = Checks.loaded("level 4;map a");
        int[] tree = Checks.fullTree();
        for (int n = 0; n <= 340; n++) {
            int length = n;
            Checks.due("the first " + n, n, () -> checksOf(tree, length));
        }
        Checks.due("all bytes", -1, () -> checksOf(tree, 341));
        Checks.due("a byte more", 341, () -> checksOf(Arrays.copyOf(tree, 342), 342));
        Checks.due("as many bytes as can be", 341, () -> checksOf(Arrays.copyOf(tree, 700), 700));
        x.read(0, Checks.put(x, tree));
        Checks.due("its tree", spaced(tree), () -> Checks.treeOf(x, 0));
    }

    private static int checksOf(int[] bytes, int n) {
        QuarterMaps x = Checks.loaded("level 4");
        Checks.put(x, bytes);
        return x.checks(n);
    }
}
