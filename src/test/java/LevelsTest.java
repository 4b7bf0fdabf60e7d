/** Section 1 at each LEVEL: the first and the last position, level and block, and those next to them. */
final class LevelsTest {
    private static final int[] SIZES = {8, 32, 128, 512, 2048};

    public static void main(String[] args) {
        for (int level = 1; level <= 4; level++) {
            sizes(level);
            positions(level);
            ranges(level);
            blocks(level);
            emptyAndFull(level);
            shifts(level);
        }
        Checks.due("the level 0 is none of a map", Checks.ARGUMENT, () -> Checks.loaded("level 0"));
        Checks.due("the level 5 is none of a map", Checks.ARGUMENT, () -> Checks.loaded("level 5"));
        neighbours();
        objectsAreApart();
        levelsInTurn();
        manyCalls();
        Checks.finish();
    }

    private static QuarterMaps three(int level) {
        int last = SIZES[level] - 1;
        return Checks.loaded("level " + level + ";map a;fill a 0 0;fill a " + last + " " + last
            + ";map b;fill b 0 " + last + ";map c");
    }

    private static void sizes(int level) {
        QuarterMaps x = three(level);
        Checks.due("level", level, () -> x.count(1));
        Checks.due("bits", SIZES[level], () -> x.count(2));
        Checks.due("bits of the full map", SIZES[level], () -> x.ones(1, 0, SIZES[level] - 1));
        Checks.due("the last bit of the full map", SIZES[level] - 1, () -> x.select(1, SIZES[level] - 1));
        Checks.due("none behind it", -1, () -> x.select(1, SIZES[level]));
        Checks.due("the longest run of all", SIZES[level], () -> x.longestRun(1, 1));
        Checks.due("the longest run of none", 0, () -> x.longestRun(2, 1));
        Checks.due("between the ends", SIZES[level] - 2, () -> x.longestRun(0, 0));
        Checks.due("runs at both ends", "2 1", () -> x.runs(0, 1) + " " + x.runs(0, 0));
        Checks.due("unlike in all", SIZES[level], () -> x.distance(1, 2));
        Checks.due("unlike in the last one, too", SIZES[level] - 2, () -> x.distance(0, 1));
        Checks.due("first unlike", "0 1", () -> x.differs(0, 2) + " " + x.differs(0, 1));
        Checks.due("unlike at the end alone", SIZES[level] - 1, () -> {
            x.flip(2, 0, 0);
            return x.differs(0, 2);
        });
        // A head and a tree of one byte for each level, twice.
        Checks.due("bytes", 1 + 2 * level, () -> x.bytes(0));
        Checks.due("share", (1.0f + 2 * level) / (SIZES[level] / 8), () -> x.share(0));
        Checks.due("mean", 2.0 / (1 + 2 * level), () -> x.meanBits(0));
    }

    private interface OfPosition {
        int answer(int position);
    }

    private static void duePosition(String call, int level, OfPosition of, int first, int last) {
        Checks.due(call + " of the first at level " + level, first, () -> of.answer(0));
        Checks.due(call + " of the last at level " + level, last, () -> of.answer(SIZES[level] - 1));
        for (int wrong : new int[] {-1, SIZES[level], -SIZES[level], Integer.MAX_VALUE, Integer.MIN_VALUE}) {
            Checks.due(call + " of " + wrong + " at level " + level, Checks.INDEX, () -> of.answer(wrong));
        }
    }

    private static void positions(int level) {
        QuarterMaps x = three(level);
        int last = SIZES[level] - 1;
        duePosition("bit", level, p -> x.bit(0, p), 1, 1);
        duePosition("next 1", level, p -> x.next(0, p, 1), 0, last);
        duePosition("next 0", level, p -> x.next(0, p, 0), 1, -1);
        duePosition("teller", level, p -> x.teller(0, p), level, 2 * level);
        duePosition("teller of the full map", level, p -> x.teller(1, p), 0, 0);
        duePosition("bytesIf", level, p -> x.bytesIf(0, p), 1 + level, 1 + level);
        duePosition("bytesIf of the full map", level, p -> x.bytesIf(1, p), 1 + level, 1 + level);
    }

    private static void ranges(int level) {
        QuarterMaps x = three(level);
        int last = SIZES[level] - 1;
        duePosition("ones", level, p -> x.ones(0, p, p), 1, 1);
        duePosition("ones from 0", level, p -> x.ones(0, 0, p), 1, 2);
        duePosition("ones to the end", level, p -> x.ones(0, p, last), 2, 1);
        duePosition("bestFlip", level, p -> x.bestFlip(0, p, p), 0, last);
        duePosition("bestFlip from 0", level, p -> x.bestFlip(0, 0, p), 0, 0);
        duePosition("bestFlip to the end", level, p -> x.bestFlip(0, p, last), 0, last);
        duePosition("bytesFilled", level, p -> x.bytesFilled(0, p, p, 0), 1 + level, 1 + level);
        duePosition("bytesFilled from 0", level, p -> x.bytesFilled(0, 0, p, 0), 1 + level, 1);
        duePosition("bytesFilled to the end", level, p -> x.bytesFilled(0, p, last, 1), 1, 1 + 2 * level);
        duePosition("writeBits", level, p -> x.writeBits(0, p, p), 1, 1);
        duePosition("fill", level, p -> x.fill(2, p, p, 1), 1, 1);
        duePosition("fill from 0", level, p -> x.fill(1, 0, p, 0), 1, SIZES[level] - 1);
        duePosition("flip", level, p -> x.flip(1, p, p), level, level);
        Checks.due("the bits that fill made", "2 0 " + last,
            () -> x.ones(2, 0, last) + " " + x.select(2, 0) + " " + x.select(2, 1));
        Checks.due("those that flip made", 0, () -> x.distance(1, 2));
        for (int first : new int[] {1, 7, 8, last}) {
            Checks.due("a range that is turned", Checks.INDEX, () -> x.ones(0, first, first - 1));
            Checks.due("a range that is turned", Checks.INDEX, () -> x.flip(0, first, 0));
        }
    }

    private static void blocks(int level) {
        for (int l = 0; l <= level; l++) {
            int at = l;
            int last = SIZES[level] / SIZES[l] - 1;
            QuarterMaps x = three(level);
            int one = l == level ? 2 : 1;
            duePositionOfBlock("block", last, b -> x.block(0, at, b, 1), one, one);
            duePositionOfBlock("block of the full map", last, b -> x.block(1, at, b, 1), SIZES[l], SIZES[l]);
            int code = l == level ? -1 : 2;
            duePositionOfBlock("code", last, b -> x.block(0, at, b, 0), code, code);
            duePositionOfBlock("start", last, b -> x.block(0, at, b, 2), level - l, l == level ? 0 : 2 * level - l);
            int length = l == level ? 1 + 2 * level : 1 + l;
            duePositionOfBlock("length", last, b -> x.block(0, at, b, 3), length, length);
            int twin = l == level ? -1 : 0;
            duePositionOfBlock("mostLike", last, b -> x.mostLike(1, at, b), l == level ? -1 : 1, twin);
            duePositionOfBlock("copyBlock onto itself", last, b -> x.copyBlock(0, at, b, b), 1 + 2 * level, 1 + 2 * level);
            duePositionOfBlock("copyBlock from", last, b -> x.copyBlock(2, at, b, 0), 1, 1);
            duePositionOfBlock("copyBlock to", last, b -> x.copyBlock(2, at, 0, b), 1, 1);
            Checks.due("alike", SIZES[level] / SIZES[l], () -> x.alike(1, 1, at));
            Checks.due("alike", 0, () -> x.alike(1, 2, at));
            Checks.due("alike but at the ends", Math.max(0, SIZES[level] / SIZES[l] - 2), () -> x.alike(0, 2, at));
        }
        QuarterMaps x = three(level);
        for (int wrong : new int[] {-1, level + 1, 5, 16, 31, 32, Integer.MAX_VALUE, Integer.MIN_VALUE}) {
            Checks.due("block of the level " + wrong, Checks.INDEX, () -> x.block(0, wrong, 0, 1));
            Checks.due("mostLike of the level " + wrong, Checks.INDEX, () -> x.mostLike(0, wrong, 0));
            Checks.due("copyBlock of the level " + wrong, Checks.INDEX, () -> x.copyBlock(0, wrong, 0, 0));
            Checks.due("alike of the level " + wrong, Checks.INDEX, () -> x.alike(0, 1, wrong));
        }
    }

    private static void duePositionOfBlock(String call, int last, OfPosition of, int first, int atLast) {
        // With one block the first one is the last one.
        Checks.due(call + " of the first block", last == 0 ? atLast : first, () -> of.answer(0));
        Checks.due(call + " of the last block", atLast, () -> of.answer(last));
        for (int wrong : new int[] {-1, last + 1, Integer.MAX_VALUE, Integer.MIN_VALUE}) {
            Checks.due(call + " of the block " + wrong, Checks.INDEX, () -> of.answer(wrong));
        }
    }

    /** An empty map and a full one have a head, and nothing else. */
    private static void emptyAndFull(int level) {
        QuarterMaps x = three(level);
        int last = SIZES[level] - 1;
        for (int map = 1; map <= 2; map++) {
            int m = map;
            int full = map == 1 ? 1 : 0;
            Checks.due("bytes", map == 1 ? "85" : "0", () -> Checks.treeOf(x, m));
            Checks.due("heads", 1, () -> x.parts(m, 0));
            Checks.due("leaves", 0, () -> x.parts(m, 1));
            Checks.due("codes 0", 4 - 4 * full, () -> x.parts(m, 2));
            Checks.due("codes 1", 4 * full, () -> x.parts(m, 3));
            Checks.due("codes 2", 0, () -> x.parts(m, 4));
            Checks.due("codes 3", 0, () -> x.parts(m, 5));
            Checks.due("told", SIZES[level], () -> x.told(m, 0));
            Checks.due("lowest", level, () -> x.lowest(m));
            Checks.due("biggest 0", full == 1 ? -1 : 0, () -> x.biggest(m, 0));
            Checks.due("biggest 1", full == 1 ? 0 : -1, () -> x.biggest(m, 1));
            Checks.due("biggest 3", -1, () -> x.biggest(m, 3));
            Checks.due("code of the map", -1, () -> x.block(m, level, 0, 0));
            Checks.due("start of the map", 0, () -> x.block(m, level, 0, 2));
            Checks.due("length of the map", 1, () -> x.block(m, level, 0, 3));
            Checks.due("code of a quarter", full, () -> x.block(m, level - 1, 3, 0));
            Checks.due("start of a quarter", -1, () -> x.block(m, level - 1, 3, 2));
            Checks.due("length of a quarter", -1, () -> x.block(m, level - 1, 3, 3));
            Checks.due("code below a quarter", -1, () -> level < 2 ? -1 : x.block(m, level - 2, 15, 0));
            Checks.due("byte behind the head", Checks.INDEX, () -> x.byteAt(m, 1));
            Checks.due("told by a byte behind the head", Checks.INDEX, () -> x.told(m, 1));
            Checks.due("the head as a text", 2, () -> x.writeBytes(m));
            Checks.due("its digits", full == 1 ? "55" : "00", () -> Checks.writtenText(x, 2));
            Checks.due("the tree as a text", 6, () -> x.writeTree(m));
            Checks.due("its signs", full == 1 ? "(++++)" : "(----)", () -> Checks.writtenText(x, 6));
            Checks.due("mirror", 1, () -> x.mirror(m));
            Checks.due("flip of all", 0, () -> x.flip(m, 0, last));
            Checks.due("it is the other one", SIZES[level] * (1 - full), () -> x.ones(m, 0, last));
        }
    }

    private static void shifts(int level) {
        int size = SIZES[level];
        int[][] due = {{1, 1}, {size - 1, 1}, {size, 2}, {-1, 1}, {1 - size, 1}, {-size, 2}, {0, 0},
            {Integer.MAX_VALUE, 2}, {Integer.MIN_VALUE, 2}, {Integer.MIN_VALUE + 1, 2}, {1 << 30, 2}};
        for (int[] pair : due) {
            QuarterMaps x = three(level);
            int bytes = x.bytesShifted(0, pair[0]);
            Checks.due("lost by " + pair[0], pair[1], () -> x.shift(0, pair[0]));
            Checks.due("bytes by " + pair[0], bytes, () -> x.bytes(0));
            Checks.due("left by " + pair[0], 2 - pair[1], () -> x.ones(0, 0, size - 1));
        }
        QuarterMaps x = three(level);
        Checks.due("lost by half", size / 2, () -> x.shift(1, size / 2));
        Checks.due("the first one", size / 2, () -> x.select(1, 0));
        Checks.due("lost by a quarter back", 0, () -> x.shift(1, -size / 4));
        Checks.due("the first one", size / 4, () -> x.select(1, 0));
        Checks.due("a head alone", "20", () -> Checks.treeOf(x, 1));
    }

    /** Maps end where the next one begins: what lies behind the last position is no bit of them. */
    private static void neighbours() {
        QuarterMaps x = Checks.loaded("level 4;map a;map b;fill b 0 2047;map c;map d;fill d 0 2047;map e;map f");
        for (int map : new int[] {0, 2, 4, 5}) {
            Checks.due("no 1 in the map " + map, "-1 -1 0 0 2048", () -> x.next(map, 2047, 1) + " " + x.select(map, 0)
                + " " + x.ones(map, 0, 2047) + " " + x.longestRun(map, 1) + " " + x.longestRun(map, 0));
            Checks.due("the same as the first one", -1, () -> x.differs(0, map));
            Checks.due("unlike the second one", "0 2048", () -> x.differs(1, map) + " " + x.distance(map, 1));
        }
        for (int map : new int[] {1, 3}) {
            Checks.due("no 0 in the map " + map, "-1 -1 2048 0 2048", () -> x.next(map, 2047, 0) + " "
                + x.select(map, 2048) + " " + x.ones(map, 0, 2047) + " " + x.longestRun(map, 0) + " "
                + x.longestRun(map, 1));
            Checks.due("the same as the second one", -1, () -> x.differs(1, map));
            Checks.due("one is lost and a 0 comes", "1 2047 1", () -> x.shift(map, 1) + " " + x.ones(map, 0, 2047) + " "
                + x.select(map, 0));
            Checks.due("undone", 0, () -> x.undo());
        }
        Checks.due("a tree line ends with its map", "512 0", () -> {
            QuarterMaps y = Checks.loaded("level 4;map a;map b;tree a 64");
            return y.ones(0, 0, 2047) + " " + y.ones(1, 0, 2047);
        });
        Checks.due("saved", 6, () -> x.save(1));
        for (int map : new int[] {0, 1, 2, 3, 4, 5}) {
            Checks.due("mirror", 1, () -> x.mirror(map));
            Checks.due("flip", 0, () -> x.flip(map, 0, 2047));
            Checks.due("mirror", 1, () -> x.mirror(map));
        }
        Checks.due("the mirrored ones", "2048 0 2048 0 2048 2048", () -> x.ones(0, 0, 2047) + " " + x.ones(1, 0, 2047)
            + " " + x.ones(2, 0, 2047) + " " + x.ones(3, 0, 2047) + " " + x.ones(4, 0, 2047) + " " + x.ones(5, 0, 2047));
        Checks.due("restored", 6, () -> x.restore(1));
        Checks.due("others stay", "0 0 0 0", () -> x.ones(0, 0, 2047) + " " + x.ones(2, 0, 2047) + " "
            + x.ones(4, 0, 2047) + " " + x.ones(5, 0, 2047));
    }

    private static void objectsAreApart() {
        QuarterMaps x = Checks.loaded("level 1;map a;fill a 3 10");
        QuarterMaps y = Checks.loaded("level 2;map b;map c;fill c 0 99");
        x.save(0);
        y.fill(0, 0, 127, 1);
        y.writeBits(1, 99, 100);
        Checks.put(y, "b");
        Checks.due("maps", 1, () -> x.count(0));
        Checks.due("bits", "00011111111000000000000000000000", () -> Checks.bitsOf(x, 0, 0, 31));
        Checks.due("changes", "0 1", () -> x.undoable() + " " + y.undoable());
        Checks.due("texts", Checks.INDEX, () -> x.textByte(0));
        Checks.due("buffers", "0 20", () -> x.buffered() + " " + y.buffered());
        Checks.due("slots", Checks.STATE, () -> y.restore(0));
    }

    /** A text of another LEVEL leaves nothing of the one ahead of it. */
    private static void levelsInTurn() {
        int[] order = {4, 1, 3, 2, 4, 2, 1, 4, 3, 1};
        QuarterMaps x = new QuarterMaps();
        for (int level : order) {
            int last = SIZES[level] - 1;
            x.load(Checks.put(x, "level " + level + ";map a;map b;tree b 128" + " 128".repeat(level - 1) + " 9;map c"));
            Checks.due("bits", "0 2 0", () -> x.ones(0, 0, last) + " " + x.ones(1, 0, last) + " " + x.ones(2, 0, last));
            Checks.due("the last byte", last - 7, () -> x.select(1, 0));
            Checks.due("mirror", 1 + level, () -> x.mirror(1));
            Checks.due("the first byte", "4 7", () -> x.select(1, 0) + " " + x.select(1, 1));
            Checks.due("fill", SIZES[level], () -> x.fill(2, 0, last, 1));
            Checks.due("unlike all", SIZES[level] - 2, () -> x.combine(3, 1, 2, 0));
            Checks.due("read", 1, () -> x.read(2, Checks.put(x, heads(level))));
            Checks.due("the last bit", last, () -> x.select(2, 0));
            Checks.due("a tree of another level", level, () -> x.checks(Checks.put(x, heads(level - 1))));
            Checks.due("a tree of another level", level + 1, () -> x.checks(Checks.put(x, heads(level + 1))));
        }
    }

    private static int[] heads(int level) {
        int[] tree = new int[level + 1];
        java.util.Arrays.fill(tree, 128);
        return tree;
    }

    /** The 512 calls that the document allows, of those that change much. */
    private static void manyCalls() {
        QuarterMaps x = new QuarterMaps();
        int n = Checks.put(x, "level 4;map a;fill a 0 0");
        x.load(n);
        for (int call = 4; call <= 511; call++) {
            x.shift(0, 1);
        }
        Checks.due("the 512th call", 508, () -> x.select(0, 0));
    }
}
