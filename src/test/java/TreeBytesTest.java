/** Promises 16 to 26: the bytes of trees, and what they tell. */
final class TreeBytesTest {
    // Quarters of a: a tree, the same again, empty, and a tree with a code 3 of its own.
    private static final String TEXT = "level 2;map a;fill a 0 2;fill a 8 15;fill a 32 34;fill a 40 47"
        + ";fill a 96 96;fill a 105 105;fill a 112 112;fill a 120 120;map b;fill b 0 127;map c;fill c 64 95";

    public static void main(String[] args) {
        QuarterMaps x = Checks.loaded(TEXT);
        bytes(x);
        parts(x);
        block(x);
        teller(x);
        told(x);
        lowest(x);
        biggest(x);
        cheapest(x);
        means(x);
        withoutText();
        Checks.finish();
    }

    // The codes of a: 2, 3, 0, 2; behind them 2, 1, 0, 0 with 7; then 2, 2, 2, 3 with 1, 2, 1.
    private static void bytes(QuarterMaps x) {
        Checks.due("tree of a", "142 6 7 234 1 2 1", () -> Checks.treeOf(x, 0));
        Checks.due("tree of b", "85", () -> Checks.treeOf(x, 1));
        Checks.due("tree of c", "16", () -> Checks.treeOf(x, 2));
        Checks.due("bytes", 7, () -> x.bytes(0));
        Checks.due("bytes", Checks.INDEX, () -> x.bytes(3));
        Checks.due("bytes", Checks.INDEX, () -> x.bytes(-1));
        Checks.due("byteAt", Checks.INDEX, () -> x.byteAt(0, 7));
        Checks.due("byteAt", Checks.INDEX, () -> x.byteAt(1, 1));
        Checks.due("byteAt", Checks.INDEX, () -> x.byteAt(0, -1));
        Checks.due("byteAt", Checks.INDEX, () -> x.byteAt(3, 0));
        Checks.due("byteAt", Checks.INDEX, () -> x.byteAt(-1, 0));
        Checks.due("an empty map has a head", "0", () -> Checks.treeOf(Checks.loaded("level 4;map a"), 0));
        Checks.due("a leaf of 254, and a full one behind an empty one", "10 2 254 4",
            () -> Checks.treeOf(Checks.loaded("level 2;map a;fill a 1 7;fill a 40 47"), 0));
        QuarterMaps most = Checks.loaded("level 4;map a");
        int[] tree = Checks.fullTree();
        most.read(0, Checks.put(most, tree));
        Checks.due("as many bytes as can be", 341, () -> most.bytes(0));
        Checks.due("the first leaf", 1, () -> most.byteAt(0, 4));
        Checks.due("the last leaf", tree[340], () -> most.byteAt(0, 340));
        Checks.due("none behind it", Checks.INDEX, () -> most.byteAt(0, 341));
    }

    private static void parts(QuarterMaps x) {
        int[] due = {3, 4, 3, 1, 6, 2};
        for (int what = 0; what < 6; what++) {
            int asked = what;
            Checks.due("parts " + what, due[what], () -> x.parts(0, asked));
        }
        Checks.due("full quarters of the full map", 4, () -> x.parts(1, 3));
        Checks.due("heads of the full map", 1, () -> x.parts(1, 0));
        Checks.due("leaves of the full map", 0, () -> x.parts(1, 1));
        Checks.due("parts", Checks.ARGUMENT, () -> x.parts(0, -1));
        Checks.due("parts", Checks.ARGUMENT, () -> x.parts(0, 6));
        Checks.due("parts", Checks.INDEX, () -> x.parts(3, 6));
        Checks.due("parts", Checks.INDEX, () -> x.parts(-1, 0));
    }

    private static void block(QuarterMaps x) {
        dueBlock(x, 2, 0, "-1 26 0 7");
        dueBlock(x, 1, 0, "2 11 1 2");
        dueBlock(x, 1, 1, "3 11 -1 -1");
        dueBlock(x, 1, 2, "0 0 -1 -1");
        dueBlock(x, 1, 3, "2 4 3 4");
        dueBlock(x, 0, 0, "2 3 2 1");
        dueBlock(x, 0, 1, "1 8 -1 -1");
        dueBlock(x, 0, 2, "0 0 -1 -1");
        dueBlock(x, 0, 4, "-1 3 -1 -1");
        dueBlock(x, 0, 5, "-1 8 -1 -1");
        dueBlock(x, 0, 8, "-1 0 -1 -1");
        dueBlock(x, 0, 12, "2 1 4 1");
        dueBlock(x, 0, 14, "2 1 6 1");
        dueBlock(x, 0, 15, "3 1 -1 -1");
        Checks.due("whole full map", 128, () -> x.block(1, 2, 0, 1));
        int[][] wrong = {{3, 0, 0}, {-1, 0, 0}, {0, 3, 0}, {0, -1, 0}, {0, 2, 1}, {0, 1, 4}, {0, 0, 16}, {0, 0, -1},
            {0, Integer.MAX_VALUE, 0}, {0, Integer.MIN_VALUE, 0}, {0, 0, Integer.MAX_VALUE}};
        for (int[] w : wrong) {
            Checks.due("block " + w[0] + " " + w[1] + " " + w[2], Checks.INDEX, () -> x.block(w[0], w[1], w[2], 9));
        }
        Checks.due("block", Checks.ARGUMENT, () -> x.block(0, 0, 0, -1));
        Checks.due("block", Checks.ARGUMENT, () -> x.block(0, 2, 0, 4));
    }

    private static void dueBlock(QuarterMaps x, int level, int block, String want) {
        Checks.due("block " + level + " " + block, want, () -> x.block(0, level, block, 0) + " "
            + x.block(0, level, block, 1) + " " + x.block(0, level, block, 2) + " " + x.block(0, level, block, 3));
    }

    private static void teller(QuarterMaps x) {
        int[][] due = {{0, 2}, {7, 2}, {8, 1}, {31, 1}, {32, 2}, {39, 2}, {40, 1}, {48, 1}, {64, 0}, {95, 0},
            {96, 4}, {104, 5}, {112, 6}, {120, 6}, {127, 6}};
        for (int[] pair : due) {
            Checks.due("teller of " + pair[0], pair[1], () -> x.teller(0, pair[0]));
        }
        Checks.due("teller in a full map", 0, () -> x.teller(1, 127));
        Checks.due("teller", Checks.INDEX, () -> x.teller(0, 128));
        Checks.due("teller", Checks.INDEX, () -> x.teller(0, -1));
        Checks.due("teller", Checks.INDEX, () -> x.teller(3, 0));
    }

    private static void told(QuarterMaps x) {
        int[] due = {32, 48, 16, 0, 8, 8, 16};
        for (int i = 0; i < due.length; i++) {
            int asked = i;
            Checks.due("told by " + i, due[i], () -> x.told(0, asked));
        }
        Checks.due("told by the only byte", 128, () -> x.told(1, 0));
        Checks.due("told", Checks.INDEX, () -> x.told(0, 7));
        Checks.due("told", Checks.INDEX, () -> x.told(0, -1));
        Checks.due("told", Checks.INDEX, () -> x.told(3, 0));
    }

    private static void lowest(QuarterMaps x) {
        Checks.due("lowest", 0, () -> x.lowest(0));
        Checks.due("lowest", 2, () -> x.lowest(1));
        Checks.due("lowest", 1, () -> Checks.loaded("level 2;map a;fill a 0 7").lowest(0));
        Checks.due("lowest", 4, () -> Checks.loaded("level 4;map a;fill a 0 511").lowest(0));
        Checks.due("lowest", Checks.INDEX, () -> x.lowest(3));
        Checks.due("lowest", Checks.INDEX, () -> x.lowest(-1));
    }

    private static void biggest(QuarterMaps x) {
        Checks.due("biggest 0", 64, () -> x.biggest(0, 0));
        Checks.due("biggest 1", 8, () -> x.biggest(0, 1));
        Checks.due("biggest 3", 32, () -> x.biggest(0, 3));
        Checks.due("biggest 0", -1, () -> x.biggest(1, 0));
        Checks.due("biggest 1", 0, () -> x.biggest(1, 1));
        Checks.due("biggest 1", 64, () -> x.biggest(2, 1));
        Checks.due("biggest 0", 0, () -> x.biggest(2, 0));
        Checks.due("biggest 3", -1, () -> x.biggest(2, 3));
        Checks.due("the greater one behind a smaller one", 32,
            () -> Checks.loaded("level 2;map a;fill a 0 8;fill a 32 63").biggest(0, 1));
        Checks.due("one of the level 0", 120,
            () -> Checks.loaded("level 2;map a;fill a 112 112;fill a 120 120").biggest(0, 3));
        Checks.due("biggest 2", Checks.ARGUMENT, () -> x.biggest(0, 2));
        Checks.due("biggest -1", Checks.ARGUMENT, () -> x.biggest(0, -1));
        Checks.due("biggest 4", Checks.ARGUMENT, () -> x.biggest(0, 4));
        Checks.due("biggest", Checks.INDEX, () -> x.biggest(3, 2));
        Checks.due("biggest", Checks.INDEX, () -> x.biggest(-1, 0));
    }

    private static void cheapest(QuarterMaps x) {
        Checks.due("cheapest", 1, () -> x.cheapest());
        Checks.due("cheapest", 0, () -> Checks.loaded("level 1;map a;map b").cheapest());
        Checks.due("cheapest", 2, () -> Checks.loaded("level 1;map a;map b;map c;flip a 1 1;flip b 1 9").cheapest());
        Checks.due("cheapest", -1, () -> Checks.loaded("level 1").cheapest());
    }

    private static void means(QuarterMaps x) {
        Checks.due("meanBits", 26.0 / 7.0, () -> x.meanBits(0));
        Checks.due("meanBits", 128.0, () -> x.meanBits(1));
        Checks.due("meanBits", 7.0 / 3.0, () -> Checks.loaded("level 2;map a;fill a 1 7").meanBits(0));
        Checks.due("meanBits", 0.0, () -> Checks.loaded("level 2;map a").meanBits(0));
        Checks.due("meanBits", Checks.INDEX, () -> x.meanBits(3));
        Checks.due("meanBits", Checks.INDEX, () -> x.meanBits(-1));
        Checks.due("share", 0.4375f, () -> x.share(0));
        Checks.due("share", 0.0625f, () -> x.share(1));
        Checks.due("share", 0.25f, () -> Checks.loaded("level 1;map a").share(0));
        Checks.due("share", 4.0f / 256.0f, () -> Checks.loaded("level 4;map a;fill a 0 31;flip a 0 7").share(0));
        Checks.due("share", Checks.INDEX, () -> x.share(3));
        Checks.due("share", Checks.INDEX, () -> x.share(-1));
    }

    private static void withoutText() {
        QuarterMaps x = new QuarterMaps();
        Checks.due("bytes", Checks.STATE, () -> x.bytes(-1));
        Checks.due("byteAt", Checks.STATE, () -> x.byteAt(-1, -1));
        Checks.due("parts", Checks.STATE, () -> x.parts(-1, 9));
        Checks.due("block", Checks.STATE, () -> x.block(-1, 9, 0, 9));
        Checks.due("teller", Checks.STATE, () -> x.teller(-1, -1));
        Checks.due("told", Checks.STATE, () -> x.told(-1, -1));
        Checks.due("lowest", Checks.STATE, () -> x.lowest(-1));
        Checks.due("biggest", Checks.STATE, () -> x.biggest(-1, 2));
        Checks.due("cheapest", Checks.STATE, () -> x.cheapest());
        Checks.due("meanBits", Checks.STATE, () -> x.meanBits(-1));
        Checks.due("share", Checks.STATE, () -> x.share(-1));
    }
}
