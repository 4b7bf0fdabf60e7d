/** Promises 34 to 38: what would be. */
final class WouldBeTest {
    private static final int LEAST = Integer.MIN_VALUE;
    private static final int MOST = Integer.MAX_VALUE;

    public static void main(String[] args) {
        bytesIf();
        bestFlip();
        bytesFilled();
        bytesShifted();
        mostLike();
        nothingChanges();
        withoutText();
        Checks.finish();
    }

    private static void bytesIf() {
        QuarterMaps x = Checks.loaded("level 2;map a;fill a 0 1;fill a 8 8;fill a 32 63;clear a 40 40");
        // 2, 2, 0, 0; 2, 2, 0, 0 with 3 and 1; 1, 2, 1, 1 with 254
        Checks.due("bytes", 6, () -> x.bytes(0));
        Checks.due("a leaf becomes that ahead of it", 5, () -> x.bytesIf(0, 9));
        Checks.due("a leaf becomes empty", 5, () -> x.bytesIf(0, 8));
        Checks.due("a leaf is another one", 6, () -> x.bytesIf(0, 2));
        Checks.due("a block becomes full", 4, () -> x.bytesIf(0, 40));
        Checks.due("a block of the level 1 comes", 8, () -> x.bytesIf(0, 64));
        Checks.due("the last position", 8, () -> x.bytesIf(0, 127));
        QuarterMaps twins = Checks.loaded("level 2;map a;fill a 3 4;fill a 35 36;fill a 67 67");
        // 2, 3, 2, 0 with two bytes each
        Checks.due("bytes", 5, () -> twins.bytes(0));
        Checks.due("an older one again", 7, () -> twins.bytesIf(0, 3));
        Checks.due("all three the same", 3, () -> twins.bytesIf(0, 68));
        Checks.due("two unlike ones", 7, () -> twins.bytesIf(0, 36 + 1));
        QuarterMaps deep = Checks.loaded("level 4;map a;fill a 0 0;fill a 512 512");
        Checks.due("bytes", 5, () -> deep.bytes(0));
        Checks.due("no longer the same", 9, () -> deep.bytesIf(0, 513));
        Checks.due("gone", 5, () -> deep.bytesIf(0, 512));
        QuarterMaps cousins = Checks.loaded("level 3;map a;fill a 0 0;fill a 128 129");
        Checks.due("bytes", 7, () -> cousins.bytes(0));
        Checks.due("blocks round them become the same", 4, () -> cousins.bytesIf(0, 129));
        Checks.due("the other way", 4, () -> cousins.bytesIf(0, 1));
        Checks.due("the best one", 1, () -> cousins.bestFlip(0, 1, 511));
        Checks.due("the best one", 129, () -> cousins.bestFlip(0, 2, 511));
        Checks.due("the first call of all", 1, () -> Checks.loaded("level 1;map a;fill a 3 3").bytesIf(0, 3));
        Checks.due("the tree is that of the map", "2 3 2 1", () -> {
            QuarterMaps two = Checks.loaded("level 1;map a;fill a 3 3;map b");
            String before = two.bytesIf(1, 3) + " " + two.bytesIf(0, 8);
            two.fill(0, 9, 9, 1);
            return before + " " + two.bytesIf(0, 3) + " " + (two.bytesIf(0, 9) + two.bytesIf(1, 9) - 3);
        });
        Checks.due("position", Checks.INDEX, () -> deep.bytesIf(0, 2048));
        Checks.due("position", Checks.INDEX, () -> deep.bytesIf(0, -1));
        Checks.due("map", Checks.INDEX, () -> deep.bytesIf(1, 0));
        Checks.due("map", Checks.INDEX, () -> deep.bytesIf(-1, 0));
    }

    private static void bestFlip() {
        QuarterMaps x = Checks.loaded("level 2;map a;fill a 0 1;fill a 8 8;fill a 32 63;clear a 40 40");
        Checks.due("of all", 40, () -> x.bestFlip(0, 0, 127));
        Checks.due("ahead of it", 1, () -> x.bestFlip(0, 0, 39));
        Checks.due("behind it", 41, () -> x.bestFlip(0, 41, 127));
        Checks.due("the last one", 40, () -> x.bestFlip(0, 9, 40));
        Checks.due("the tree is that of the map", 1, () -> {
            QuarterMaps two = Checks.loaded("level 1;map a;fill a 3 3;map b;fill b 1 1");
            two.bytes(0);
            return two.bestFlip(1, 0, 31);
        });
        Checks.due("of one", 127, () -> x.bestFlip(0, 127, 127));
        Checks.due("the first of the same", 9, () -> x.bestFlip(0, 9, 31));
        Checks.due("turned", Checks.INDEX, () -> x.bestFlip(0, 5, 4));
        Checks.due("range", Checks.INDEX, () -> x.bestFlip(0, 0, 128));
        Checks.due("range", Checks.INDEX, () -> x.bestFlip(0, -1, 5));
        Checks.due("map", Checks.INDEX, () -> x.bestFlip(1, 0, 0));
        Checks.due("map", Checks.INDEX, () -> x.bestFlip(-1, 0, 0));
    }

    private static void bytesFilled() {
        QuarterMaps x = Checks.loaded("level 1;map a;fill a 3 10");
        Checks.due("filled", 3, () -> x.bytesFilled(0, 3, 3, 1));
        Checks.due("filled", 2, () -> x.bytesFilled(0, 0, 2, 1));
        Checks.due("filled", 1, () -> x.bytesFilled(0, 0, 31, 1));
        Checks.due("cleared", 2, () -> x.bytesFilled(0, 8, 10, 0));
        Checks.due("cleared", 2, () -> x.bytesFilled(0, 0, 7, 0));
        Checks.due("cleared", 1, () -> x.bytesFilled(0, 3, 10, 0));
        dueWrongRanges("bytesFilled", (map, from, to) -> x.bytesFilled(map, from, to, 7));
        Checks.due("bit", Checks.ARGUMENT, () -> x.bytesFilled(0, 0, 0, 2));
        Checks.due("bit", Checks.ARGUMENT, () -> x.bytesFilled(0, 0, 0, -1));
    }

    private static void bytesShifted() {
        QuarterMaps x = Checks.loaded("level 1;map a;fill a 3 10");
        Checks.due("shifted", 3, () -> x.bytesShifted(0, 0));
        Checks.due("shifted", 1, () -> x.bytesShifted(0, 5));
        Checks.due("shifted", 1, () -> x.bytesShifted(0, -3));
        Checks.due("shifted", 3, () -> x.bytesShifted(0, 6));
        Checks.due("shifted", 2, () -> x.bytesShifted(0, 28));
        Checks.due("shifted", 1, () -> x.bytesShifted(0, 29));
        Checks.due("shifted", 2, () -> x.bytesShifted(0, -10));
        Checks.due("shifted", 1, () -> x.bytesShifted(0, MOST));
        Checks.due("shifted", 1, () -> x.bytesShifted(0, LEAST));
        Checks.due("shifted", Checks.INDEX, () -> x.bytesShifted(1, 0));
        Checks.due("shifted", Checks.INDEX, () -> x.bytesShifted(-1, 0));
    }

    private static void mostLike() {
        QuarterMaps x = Checks.loaded("level 2;map a;fill a 0 3;fill a 10 12;fill a 32 35;fill a 40 40;fill a 96 127");
        Checks.due("mostLike", 4, () -> x.mostLike(0, 0, 0));
        Checks.due("mostLike", 3, () -> x.mostLike(0, 0, 2));
        Checks.due("mostLike", 0, () -> x.mostLike(0, 0, 1));
        Checks.due("the smallest of several", 2, () -> x.mostLike(0, 0, 5));
        Checks.due("mostLike", 13, () -> x.mostLike(0, 0, 12));
        Checks.due("mostLike", 1, () -> x.mostLike(0, 1, 0));
        Checks.due("mostLike", 1, () -> x.mostLike(0, 1, 2));
        Checks.due("mostLike", 0, () -> x.mostLike(0, 1, 3));
        Checks.due("no other one", -1, () -> x.mostLike(0, 2, 0));
        int[][] wrong = {{1, 0, 0}, {-1, 0, 0}, {0, -1, 0}, {0, 3, 0}, {0, 2, 1}, {0, 1, 4}, {0, 0, 16}, {0, 0, -1},
            {0, MOST, 0}, {0, LEAST, 0}, {0, 1, LEAST}};
        for (int[] w : wrong) {
            Checks.due("mostLike " + w[0] + " " + w[1] + " " + w[2], Checks.INDEX, () -> x.mostLike(w[0], w[1], w[2]));
        }
    }

    private static void nothingChanges() {
        QuarterMaps x = Checks.loaded("level 1;map a;fill a 3 10");
        x.bytesIf(0, 3);
        x.bestFlip(0, 0, 31);
        x.bytesFilled(0, 0, 31, 1);
        x.bytesShifted(0, 9);
        x.mostLike(0, 0, 0);
        Checks.due("the bits stay", "00011111111000000000000000000000", () -> Checks.bitsOf(x, 0, 0, 31));
        Checks.due("nothing can be undone", 0, () -> x.undoable());
    }

    private static void withoutText() {
        QuarterMaps x = new QuarterMaps();
        Checks.due("bytesIf", Checks.STATE, () -> x.bytesIf(-1, 0));
        Checks.due("bestFlip", Checks.STATE, () -> x.bestFlip(-1, 1, 0));
        Checks.due("bytesFilled", Checks.STATE, () -> x.bytesFilled(-1, 1, 0, 2));
        Checks.due("bytesShifted", Checks.STATE, () -> x.bytesShifted(-1, 0));
        Checks.due("mostLike", Checks.STATE, () -> x.mostLike(-1, 9, 9));
    }

    interface OfRange {
        Object answer(int map, int from, int to);
    }

    /** For a class with one map of the level 1. */
    static void dueWrongRanges(String what, OfRange call) {
        int[][] wrong = {{-1, 0, 0}, {1, 0, 0}, {0, -1, 0}, {0, 0, 32}, {0, 32, 32}, {0, 5, 4}, {0, 0, -1},
            {0, LEAST, 0}, {0, 0, MOST}, {MOST, 0, 0}};
        for (int[] w : wrong) {
            Checks.due(what + " " + w[0] + " " + w[1] + " " + w[2], Checks.INDEX, () -> call.answer(w[0], w[1], w[2]));
        }
    }
}
