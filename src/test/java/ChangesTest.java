/** Promises 43 to 53: changes, undo, save and restore. */
final class ChangesTest {
    private static final int LEAST = Integer.MIN_VALUE;
    private static final int MOST = Integer.MAX_VALUE;

    public static void main(String[] args) {
        fill();
        flip();
        combine();
        copyBlock();
        shift();
        mirror();
        read();
        undo();
        aChangeWithoutDifference();
        theLatestEight();
        undoBehindLoadAndRestore();
        save();
        withoutText();
        Checks.finish();
    }

    private static QuarterMaps one() {
        return Checks.loaded("level 1;map a;fill a 3 10");
    }

    private static void fill() {
        QuarterMaps x = one();
        Checks.due("fill 1", 4, () -> x.fill(0, 1, 12, 1));
        Checks.due("bits", "01111111111110000000000000000000", () -> Checks.bitsOf(x, 0, 0, 31));
        Checks.due("fill 0", 5, () -> x.fill(0, 8, 15, 0));
        Checks.due("bits", "01111111000000000000000000000000", () -> Checks.bitsOf(x, 0, 0, 31));
        Checks.due("fill of such bits", 0, () -> x.fill(0, 1, 7, 1));
        Checks.due("fill of all", 25, () -> x.fill(0, 0, 31, 1));
        Checks.due("clear of one", 1, () -> x.fill(0, 31, 31, 0));
        Checks.due("changes", 5, () -> x.undoable());
        WouldBeTest.dueWrongRanges("fill", (map, from, to) -> x.fill(map, from, to, 7));
        Checks.due("bit", Checks.ARGUMENT, () -> x.fill(0, 0, 0, 2));
        Checks.due("bit", Checks.ARGUMENT, () -> x.fill(0, 0, 0, -1));
        Checks.due("no wrong call is a change", 5, () -> x.undoable());
        Checks.due("other maps stay", 0, () -> {
            QuarterMaps y = Checks.loaded("level 1;map a;map b;map c");
            y.fill(1, 0, 31, 1);
            return y.ones(0, 0, 31) + y.ones(2, 0, 31);
        });
    }

    private static void flip() {
        QuarterMaps x = one();
        Checks.due("flip", -1, () -> x.flip(0, 0, 2));
        Checks.due("bits", "11111111111000000000000000000000", () -> Checks.bitsOf(x, 0, 0, 31));
        Checks.due("flip back", 1, () -> x.flip(0, 0, 2));
        Checks.due("flip all", 0, () -> x.flip(0, 0, 31));
        Checks.due("bits", "11100000000111111111111111111111", () -> Checks.bitsOf(x, 0, 0, 31));
        Checks.due("changes", 3, () -> x.undoable());
        WouldBeTest.dueWrongRanges("flip", (map, from, to) -> x.flip(map, from, to));
        Checks.due("no wrong call is a change", 3, () -> x.undoable());
    }

    private static void combine() {
        int[] ones = {11, 5, 3, 6};
        for (int kind = 0; kind < 4; kind++) {
            for (int into = 0; into < 3; into++) {
                int k = kind;
                int goal = into;
                QuarterMaps x = Checks.loaded("level 1;map a;fill a 3 10;map b;fill b 0 7;map c;fill c 30 31");
                Checks.due("combine " + k + " into " + goal, ones[k], () -> x.combine(k, 0, 1, goal));
                Checks.due("ones of a", goal == 0 ? ones[k] : 8, () -> x.ones(0, 0, 31));
                Checks.due("ones of b", goal == 1 ? ones[k] : 8, () -> x.ones(1, 0, 31));
                Checks.due("ones of c", goal == 2 ? ones[k] : 2, () -> x.ones(2, 0, 31));
                Checks.due("undo", 0, () -> x.undo());
                Checks.due("undone", "8 8 2", () -> x.ones(0, 0, 31) + " " + x.ones(1, 0, 31) + " " + x.ones(2, 0, 31));
            }
        }
        QuarterMaps x = one();
        Checks.due("unlike itself", 0, () -> x.combine(3, 0, 0, 0));
        Checks.due("kind", Checks.ARGUMENT, () -> x.combine(4, 0, 0, 0));
        Checks.due("kind", Checks.ARGUMENT, () -> x.combine(-1, 0, 0, 0));
        int[][] wrong = {{-1, 0, 0}, {0, -1, 0}, {0, 0, -1}, {1, 0, 0}, {0, 1, 0}, {0, 0, 1}, {LEAST, 0, 0}, {0, 0, MOST}};
        for (int[] w : wrong) {
            Checks.due("combine " + w[0] + " " + w[1] + " " + w[2], Checks.INDEX, () -> x.combine(9, w[0], w[1], w[2]));
        }
        Checks.due("no wrong call is a change", 1, () -> x.undoable());
    }

    private static void copyBlock() {
        QuarterMaps x = Checks.loaded("level 2;map a;fill a 3 10");
        Checks.due("copyBlock 0", 6, () -> x.copyBlock(0, 0, 0, 15));
        Checks.due("the leaf", 5, () -> x.ones(0, 123, 127));
        Checks.due("copyBlock 1", 6, () -> x.copyBlock(0, 1, 0, 2));
        Checks.due("tree", "178 10 248 7 128 248", () -> Checks.treeOf(x, 0));
        Checks.due("copyBlock 1", 6, () -> x.copyBlock(0, 1, 1, 0));
        Checks.due("tree", "160 10 248 7 128 248", () -> Checks.treeOf(x, 0));
        Checks.due("copyBlock 2", 6, () -> x.copyBlock(0, 2, 0, 0));
        Checks.due("copyBlock onto itself", 6, () -> x.copyBlock(0, 0, 5, 5));
        Checks.due("changes", 5, () -> x.undoable());
        int[][] wrong = {{1, 0, 0, 0}, {-1, 0, 0, 0}, {0, -1, 0, 0}, {0, 3, 0, 0}, {0, 2, 0, 1}, {0, 2, 1, 0},
            {0, 1, 0, 4}, {0, 1, 4, 0}, {0, 0, 16, 0}, {0, 0, 0, 16}, {0, 0, -1, 0}, {0, 0, 0, -1},
            {0, MOST, 0, 0}, {0, LEAST, 0, 0}, {0, 0, MOST, 0}, {0, 0, 0, LEAST}};
        for (int[] w : wrong) {
            Checks.due("copyBlock " + java.util.Arrays.toString(w), Checks.INDEX,
                () -> x.copyBlock(w[0], w[1], w[2], w[3]));
        }
        Checks.due("no wrong call is a change", 5, () -> x.undoable());
    }

    private static void shift() {
        int[][] due = {{0, 0}, {1, 0}, {21, 0}, {22, 1}, {28, 7}, {29, 8}, {100, 8}, {MOST, 8}, {-3, 0}, {-4, 1},
            {-10, 7}, {-11, 8}, {-31, 8}, {-32, 8}, {LEAST, 8}, {LEAST + 1, 8}};
        for (int[] pair : due) {
            QuarterMaps x = one();
            Checks.due("shift by " + pair[0], pair[1], () -> x.shift(0, pair[0]));
            Checks.due("ones left", 8 - pair[1], () -> x.ones(0, 0, 31));
            Checks.due("a change", 1, () -> x.undoable());
        }
        QuarterMaps x = one();
        x.shift(0, 5);
        Checks.due("bits", "00000000111111110000000000000000", () -> Checks.bitsOf(x, 0, 0, 31));
        x.shift(0, -10);
        Checks.due("bits", "11111100000000000000000000000000", () -> Checks.bitsOf(x, 0, 0, 31));
        QuarterMaps ends = Checks.loaded("level 1;map a;fill a 0 0;fill a 31 31");
        Checks.due("no bit comes from beyond an end", 1, () -> ends.shift(0, 1));
        Checks.due("bits", "01000000000000000000000000000000", () -> Checks.bitsOf(ends, 0, 0, 31));
        Checks.due("map", Checks.INDEX, () -> x.shift(1, 0));
        Checks.due("map", Checks.INDEX, () -> x.shift(-1, 0));
        Checks.due("no wrong call is a change", 2, () -> x.undoable());
    }

    private static void mirror() {
        QuarterMaps x = one();
        Checks.due("mirror", 3, () -> x.mirror(0));
        Checks.due("bits", "00000000000000000000011111111000", () -> Checks.bitsOf(x, 0, 0, 31));
        Checks.due("mirror", 3, () -> x.mirror(0));
        Checks.due("bits", "00011111111000000000000000000000", () -> Checks.bitsOf(x, 0, 0, 31));
        QuarterMaps big = Checks.loaded("level 4;map a;flip a 0 0;flip a 700 700");
        big.mirror(0);
        Checks.due("mirrored", "1347 2047", () -> big.select(0, 0) + " " + big.select(0, 1));
        Checks.due("map", Checks.INDEX, () -> x.mirror(1));
        Checks.due("map", Checks.INDEX, () -> x.mirror(-1));
        Checks.due("changes", 2, () -> x.undoable());
    }

    private static void read() {
        QuarterMaps x = one();
        Checks.due("read", 4, () -> x.read(0, Checks.put(x, 10, 1, 224)));
        Checks.due("buffer", 0, () -> x.buffered());
        Checks.due("bits", "10000000000001110000000000000000", () -> Checks.bitsOf(x, 0, 0, 31));
        Checks.due("read", 32, () -> x.read(0, Checks.put(x, 85)));
        Checks.due("a wrong tree", Checks.ARGUMENT, () -> x.read(0, Checks.put(x, 10, 1, 1)));
        Checks.due("buffer", 0, () -> x.buffered());
        Checks.due("a tree without end", Checks.ARGUMENT, () -> x.read(0, Checks.put(x, 10, 1)));
        Checks.due("a byte too many", Checks.ARGUMENT, () -> x.read(0, Checks.put(x, 10, 1, 2, 32)));
        Checks.due("no byte", Checks.ARGUMENT, () -> x.read(0, 0));
        Checks.due("the map stays", 32, () -> x.ones(0, 0, 31));
        Checks.put(x, 0);
        Checks.due("map", Checks.INDEX, () -> x.read(1, 1));
        Checks.due("map", Checks.INDEX, () -> x.read(-1, 1));
        Checks.due("n", Checks.INDEX, () -> x.read(0, 21));
        Checks.due("n", Checks.INDEX, () -> x.read(0, -1));
        Checks.due("buffer stays", 20, () -> x.buffered());
        Checks.due("changes", 2, () -> x.undoable());
        Checks.due("undo", 1, () -> x.undo());
        Checks.due("bits", "10000000000001110000000000000000", () -> Checks.bitsOf(x, 0, 0, 31));
        QuarterMaps deep = Checks.loaded("level 2;map a;fill a 0 127");
        Checks.due("twins of a level", 12, () -> deep.read(0, Checks.put(deep, 206, 14, 3)));
        Checks.due("its tree", "206 14 3", () -> Checks.treeOf(deep, 0));
    }

    private static void undo() {
        QuarterMaps x = Checks.loaded("level 1;map a;map b");
        Checks.due("undo of nothing", Checks.STATE, () -> x.undo());
        for (int i = 0; i < 10; i++) {
            int map = i % 2;
            int position = i;
            Checks.due("fill", 1, () -> x.fill(map, position, position, 1));
            Checks.due("undoable", Math.min(i + 1, 8), () -> x.undoable());
        }
        for (int left = 7; left >= 0; left--) {
            int due = left;
            Checks.due("undo", due, () -> x.undo());
            Checks.due("undoable", due, () -> x.undoable());
            Checks.due("ones", due + 2, () -> x.ones(0, 0, 31) + x.ones(1, 0, 31));
        }
        Checks.due("the older ones stay", "10000000 01000000", () -> Checks.bitsOf(x, 0, 0, 7) + " " + Checks.bitsOf(x, 1, 0, 7));
        Checks.due("undo of nothing", Checks.STATE, () -> x.undo());
        x.fill(0, 5, 5, 1);
        x.fill(0, 6, 6, 1);
        Checks.due("undo", 1, () -> x.undo());
        x.fill(0, 7, 7, 1);
        Checks.due("undo", 1, () -> x.undo());
        Checks.due("bits", "10000100", () -> Checks.bitsOf(x, 0, 0, 7));
        QuarterMaps each = Checks.loaded("level 1;map a;fill a 3 10;map b");
        each.fill(0, 0, 31, 1);
        each.flip(0, 0, 7);
        each.combine(0, 0, 1, 1);
        each.copyBlock(0, 0, 0, 1);
        each.shift(0, 3);
        each.mirror(0);
        each.read(0, Checks.put(each, 85));
        Checks.due("a change of each call", 7, () -> each.undoable());
        for (int i = 0; i < 7; i++) {
            each.undo();
        }
        Checks.due("all undone", "00011111111000000000000000000000", () -> Checks.bitsOf(each, 0, 0, 31));
        Checks.due("all undone", 0, () -> each.ones(1, 0, 31));
    }

    private static void aChangeWithoutDifference() {
        QuarterMaps x = Checks.loaded("level 1;map a;fill a 12 19");
        String bits = Checks.bitsOf(x, 0, 0, 31);
        Checks.due("fill of such bits", 0, () -> x.fill(0, 14, 15, 1));
        Checks.due("fill of such bits", 0, () -> x.fill(0, 0, 11, 0));
        Checks.due("shift by nothing", 0, () -> x.shift(0, 0));
        Checks.due("copyBlock of the same", 3, () -> x.copyBlock(0, 0, 0, 3));
        Checks.due("combine with itself", 8, () -> x.combine(1, 0, 0, 0));
        Checks.due("mirror of what is the same then", 3, () -> x.mirror(0));
        Checks.due("read of its own tree", 8, () -> x.read(0, Checks.put(x, 40, 240, 15)));
        Checks.due("each is a change", 7, () -> x.undoable());
        Checks.due("flip of one", 0, () -> x.flip(0, 12, 12));
        Checks.due("eight", 8, () -> x.undoable());
        for (int left = 7; left >= 0; left--) {
            int due = left;
            Checks.due("undo", due, () -> x.undo());
            Checks.due("the bits", bits, () -> Checks.bitsOf(x, 0, 0, 31));
        }
        Checks.due("undo of nothing", Checks.STATE, () -> x.undo());
    }

    /** However many changes were made and undone, the latest eight are kept, each with its own map. */
    private static void theLatestEight() {
        for (int changes = 0; changes <= 30; changes++) {
            for (int undone = 0; undone <= Math.min(8, changes); undone += 2) {
                int first = changes;
                int back = undone;
                QuarterMaps x = Checks.loaded("level 1;map a;map b;map c");
                String[] states = new String[60];
                int at = 0;
                states[0] = bitsOfThree(x);
                for (int i = 0; i < first; i++) {
                    x.flip(i % 3, i % 32, i % 32);
                    at++;
                    states[at] = bitsOfThree(x);
                }
                for (int i = 0; i < back; i++) {
                    x.undo();
                    at--;
                    String due = states[at];
                    Checks.due("undone", due, () -> bitsOfThree(x));
                }
                // What was undone is no change any more, so the next one takes its place.
                x.fill(1, 0, 31, 1);
                at++;
                int kept = Math.min(8, Math.min(8, first) - back + 1);
                Checks.due("kept of " + first + " less " + back + " and one", kept, () -> x.undoable());
                for (int left = kept - 1; left >= 0; left--) {
                    int due = left;
                    at--;
                    String bits = states[at];
                    Checks.due("undo", due, () -> x.undo());
                    Checks.due("the bits then", bits, () -> bitsOfThree(x));
                }
                Checks.due("undo of nothing", Checks.STATE, () -> x.undo());
            }
        }
    }

    private static String bitsOfThree(QuarterMaps x) {
        StringBuilder bits = new StringBuilder();
        for (int map = 0; map < 3; map++) {
            bits.append(x.ones(map, 0, 31)).append(' ').append(x.select(map, 0)).append(' ');
        }
        return bits.toString();
    }

    /** Load and restore end what can be undone only if they succeed; then eight are kept again. */
    private static void undoBehindLoadAndRestore() {
        QuarterMaps x = one();
        for (int i = 0; i < 9; i++) {
            x.flip(0, i, i);
        }
        Checks.due("a wrong text", Checks.ARGUMENT, () -> x.load(Checks.put(x, "level 1;map")));
        Checks.due("no such text", Checks.INDEX, () -> x.load(1));
        Checks.due("nothing saved", Checks.STATE, () -> x.restore(0));
        Checks.due("no such slot", Checks.INDEX, () -> x.restore(2));
        Checks.due("eight", 8, () -> x.undoable());
        Checks.due("undo", 7, () -> x.undo());
        x.save(1);
        Checks.due("save is no change", 7, () -> x.undoable());
        Checks.due("undo", 6, () -> x.undo());
        x.restore(1);
        Checks.due("none behind restore", 0, () -> x.undoable());
        Checks.due("undo", Checks.STATE, () -> x.undo());
        String restored = Checks.bitsOf(x, 0, 0, 31);
        for (int i = 0; i < 9; i++) {
            x.flip(0, 20 + i, 20 + i);
            Checks.due("kept", Math.min(8, i + 1), () -> x.undoable());
        }
        for (int left = 7; left >= 0; left--) {
            int due = left;
            Checks.due("undo", due, () -> x.undo());
        }
        x.flip(0, 20, 20);
        Checks.due("all but the first one undone", restored, () -> Checks.bitsOf(x, 0, 0, 31));
        x.load(Checks.put(x, "level 1;map a"));
        Checks.due("none behind load", 0, () -> x.undoable());
        Checks.due("undo", Checks.STATE, () -> x.undo());
        x.fill(0, 0, 0, 1);
        Checks.due("undo", 0, () -> x.undo());
        Checks.due("the map is empty again", 0, () -> x.ones(0, 0, 31));
    }

    private static void save() {
        QuarterMaps x = Checks.loaded("level 1;map a;fill a 3 10;map b");
        Checks.due("nothing is saved", Checks.STATE, () -> x.restore(0));
        Checks.due("save", 4, () -> x.save(0));
        x.fill(1, 0, 7, 1);
        x.mirror(0);
        Checks.due("save is no change", 2, () -> x.undoable());
        Checks.due("the other slot", Checks.STATE, () -> x.restore(1));
        Checks.due("still undoable", 2, () -> x.undoable());
        x.read(1, Checks.put(x, 10, 1, 2));
        Checks.due("save", 6, () -> x.save(1));
        Checks.due("save keeps the changes", 3, () -> x.undoable());
        Checks.due("restore", 4, () -> x.restore(0));
        Checks.due("restored", "00011111111000000000000000000000", () -> Checks.bitsOf(x, 0, 0, 31));
        Checks.due("restored", 0, () -> x.ones(1, 0, 31));
        Checks.due("nothing can be undone", 0, () -> x.undoable());
        Checks.due("undo", Checks.STATE, () -> x.undo());
        x.fill(0, 0, 31, 0);
        Checks.due("it stays saved", 4, () -> x.restore(0));
        Checks.due("restored", 8, () -> x.ones(0, 0, 31));
        Checks.due("the other slot", 6, () -> x.restore(1));
        Checks.due("restored", 2, () -> x.ones(1, 0, 31));
        Checks.due("in place of what was saved", 6, () -> x.save(0));
        x.fill(1, 0, 31, 0);
        Checks.due("restored", 6, () -> x.restore(0));
        Checks.due("the slots are apart", "32 8 2 4", () -> {
            QuarterMaps y = Checks.loaded("level 1;map a;map b");
            y.fill(0, 0, 31, 1);
            y.fill(1, 0, 7, 1);
            y.save(1);
            y.fill(0, 2, 31, 0);
            y.fill(1, 4, 7, 0);
            y.save(0);
            y.restore(1);
            String first = y.ones(0, 0, 31) + " " + y.ones(1, 0, 31);
            y.restore(0);
            return first + " " + y.ones(0, 0, 31) + " " + y.ones(1, 0, 31);
        });
        Checks.due("all six maps are saved", "32 31 30 29 28 27", () -> {
            QuarterMaps y = Checks.loaded("level 1;map a;map b;map c;map d;map e;map f");
            StringBuilder ones = new StringBuilder();
            for (int map = 0; map < 6; map++) {
                y.fill(map, map, 31, 1);
            }
            y.save(0);
            y.save(1);
            for (int map = 0; map < 6; map++) {
                y.shift(map, LEAST);
            }
            y.restore(1);
            for (int map = 0; map < 6; map++) {
                ones.append(map == 0 ? "" : " ").append(y.ones(map, 0, 31));
            }
            return ones;
        });
        for (int slot : new int[] {-1, 2, LEAST, MOST}) {
            Checks.due("save in slot " + slot, Checks.INDEX, () -> x.save(slot));
            Checks.due("restore of slot " + slot, Checks.INDEX, () -> x.restore(slot));
        }
        QuarterMaps none = Checks.loaded("level 1");
        Checks.due("save without maps", 0, () -> none.save(1));
        Checks.due("restore without maps", 0, () -> none.restore(1));
    }

    private static void withoutText() {
        QuarterMaps x = new QuarterMaps();
        Checks.put(x, 0);
        Checks.due("fill", Checks.STATE, () -> x.fill(-1, 1, 0, 2));
        Checks.due("flip", Checks.STATE, () -> x.flip(-1, 1, 0));
        Checks.due("combine", Checks.STATE, () -> x.combine(9, -1, 0, 0));
        Checks.due("copyBlock", Checks.STATE, () -> x.copyBlock(-1, 9, 0, 0));
        Checks.due("shift", Checks.STATE, () -> x.shift(-1, 0));
        Checks.due("mirror", Checks.STATE, () -> x.mirror(-1));
        Checks.due("read", Checks.STATE, () -> x.read(-1, -1));
        Checks.due("the buffer stays", 20, () -> x.buffered());
        Checks.due("undo", Checks.STATE, () -> x.undo());
        Checks.due("undoable", 0, () -> x.undoable());
        Checks.due("save", Checks.STATE, () -> x.save(9));
        Checks.due("restore", Checks.INDEX, () -> x.restore(9));
        Checks.due("restore", Checks.STATE, () -> x.restore(0));
    }
}
