/** Promises 9 to 15: counts and bits. */
final class BitsTest {
    private static final int LEAST = Integer.MIN_VALUE;
    private static final int MOST = Integer.MAX_VALUE;

    public static void main(String[] args) {
        QuarterMaps x = Checks.loaded("level 2;map a;fill a 3 10;fill a 127 127;map b;fill b 0 127;map c");
        count(x);
        bit(x);
        ones(x);
        next(x);
        select(x);
        runs(x);
        longestRun(x);
        withoutText();
        Checks.finish();
    }

    private static void count(QuarterMaps x) {
        Checks.due("maps", 3, () -> x.count(0));
        Checks.due("level", 2, () -> x.count(1));
        Checks.due("bits", 128, () -> x.count(2));
        // a: a head with two trees, of two bytes and of a head and one; b and c: heads alone.
        Checks.due("bytes of all", 8, () -> x.count(3));
        Checks.due("count -1", Checks.ARGUMENT, () -> x.count(-1));
        Checks.due("count 4", Checks.ARGUMENT, () -> x.count(4));
        Checks.due("bits", 32, () -> Checks.loaded("level 1").count(2));
        Checks.due("bits", 512, () -> Checks.loaded("level 3").count(2));
        Checks.due("bits", 2048, () -> Checks.loaded("level 4").count(2));
        Checks.due("bytes of none", 0, () -> Checks.loaded("level 4").count(3));
    }

    private static void bit(QuarterMaps x) {
        Checks.due("bits", "0001111111100000", () -> Checks.bitsOf(x, 0, 0, 15));
        Checks.due("the last one", 1, () -> x.bit(0, 127));
        Checks.due("the last but one", 0, () -> x.bit(0, 126));
        Checks.due("another map", 1, () -> x.bit(1, 0));
        dueIndex("bit", x, (map, position) -> x.bit(map, position));
    }

    private static void ones(QuarterMaps x) {
        Checks.due("all", 9, () -> x.ones(0, 0, 127));
        Checks.due("inside one byte", 2, () -> x.ones(0, 2, 4));
        Checks.due("one", 1, () -> x.ones(0, 3, 3));
        Checks.due("none", 0, () -> x.ones(0, 11, 126));
        Checks.due("over bytes", 8, () -> x.ones(0, 3, 126));
        Checks.due("all", 128, () -> x.ones(1, 0, 127));
        Checks.due("some", 100, () -> x.ones(1, 20, 119));
        dueIndex("ones", x, (map, position) -> x.ones(map, position, position));
        Checks.due("turned", Checks.INDEX, () -> x.ones(0, 5, 4));
        Checks.due("beyond", Checks.INDEX, () -> x.ones(0, 0, 128));
        Checks.due("before", Checks.INDEX, () -> x.ones(0, -1, 5));
    }

    private static void next(QuarterMaps x) {
        Checks.due("next 1", 3, () -> x.next(0, 0, 1));
        Checks.due("next 1 from itself", 3, () -> x.next(0, 3, 1));
        Checks.due("next 0", 11, () -> x.next(0, 3, 0));
        Checks.due("next 1", 127, () -> x.next(0, 11, 1));
        Checks.due("next 0", -1, () -> x.next(0, 127, 0));
        Checks.due("next 1", -1, () -> x.next(2, 0, 1));
        Checks.due("next 0", -1, () -> x.next(1, 0, 0));
        dueIndex("next", x, (map, position) -> x.next(map, position, 1));
        Checks.due("next -1", Checks.ARGUMENT, () -> x.next(0, 0, -1));
        Checks.due("next 2", Checks.ARGUMENT, () -> x.next(0, 0, 2));
        Checks.due("index first", Checks.INDEX, () -> x.next(0, 128, 2));
        Checks.due("index first", Checks.INDEX, () -> x.next(3, 0, 2));
    }

    private static void select(QuarterMaps x) {
        Checks.due("select", 3, () -> x.select(0, 0));
        Checks.due("select", 10, () -> x.select(0, 7));
        Checks.due("select", 127, () -> x.select(0, 8));
        Checks.due("select", -1, () -> x.select(0, 9));
        Checks.due("select", -1, () -> x.select(0, MOST));
        Checks.due("select", 127, () -> x.select(1, 127));
        Checks.due("select", -1, () -> x.select(1, 128));
        Checks.due("select", -1, () -> x.select(2, 0));
        Checks.due("select", Checks.INDEX, () -> x.select(0, -1));
        Checks.due("select", Checks.INDEX, () -> x.select(0, LEAST));
        Checks.due("select", Checks.INDEX, () -> x.select(3, 0));
        Checks.due("select", Checks.INDEX, () -> x.select(-1, 0));
    }

    private static void runs(QuarterMaps x) {
        Checks.due("runs of 1", 2, () -> x.runs(0, 1));
        Checks.due("runs of 0", 2, () -> x.runs(0, 0));
        Checks.due("runs of 1", 1, () -> x.runs(1, 1));
        Checks.due("runs of 0", 0, () -> x.runs(1, 0));
        Checks.due("runs of 1", 0, () -> x.runs(2, 1));
        Checks.due("runs of 0", 1, () -> x.runs(2, 0));
        QuarterMaps even = Checks.loaded("level 1;map a;tree a 254 85");
        Checks.due("every other bit", 16, () -> even.runs(0, 1));
        Checks.due("every other bit", 16, () -> even.runs(0, 0));
        Checks.due("runs", Checks.INDEX, () -> x.runs(3, 7));
        Checks.due("runs", Checks.INDEX, () -> x.runs(-1, 0));
        Checks.due("runs", Checks.ARGUMENT, () -> x.runs(0, -1));
        Checks.due("runs", Checks.ARGUMENT, () -> x.runs(0, 2));
    }

    private static void longestRun(QuarterMaps x) {
        Checks.due("longest of 1", 8, () -> x.longestRun(0, 1));
        Checks.due("longest of 0", 116, () -> x.longestRun(0, 0));
        Checks.due("longest of 1", 128, () -> x.longestRun(1, 1));
        Checks.due("longest of 0", 0, () -> x.longestRun(1, 0));
        Checks.due("longest at the end", 5,
            () -> Checks.loaded("level 1;map a;fill a 3 6;fill a 27 31").longestRun(0, 1));
        Checks.due("longest", Checks.INDEX, () -> x.longestRun(3, 7));
        Checks.due("longest", Checks.INDEX, () -> x.longestRun(LEAST, 0));
        Checks.due("longest", Checks.ARGUMENT, () -> x.longestRun(0, -1));
        Checks.due("longest", Checks.ARGUMENT, () -> x.longestRun(0, 2));
    }

    private static void withoutText() {
        QuarterMaps x = new QuarterMaps();
        Checks.due("count", Checks.STATE, () -> x.count(9));
        Checks.due("bit", Checks.STATE, () -> x.bit(-1, -1));
        Checks.due("ones", Checks.STATE, () -> x.ones(-1, 1, 0));
        Checks.due("next", Checks.STATE, () -> x.next(-1, -1, 9));
        Checks.due("select", Checks.STATE, () -> x.select(-1, -1));
        Checks.due("runs", Checks.STATE, () -> x.runs(-1, 9));
        Checks.due("longestRun", Checks.STATE, () -> x.longestRun(-1, 9));
    }

    private interface MapAndPosition {
        int answer(int map, int position);
    }

    private static void dueIndex(String what, QuarterMaps x, MapAndPosition call) {
        int[][] wrong = {{-1, 0}, {3, 0}, {LEAST, 0}, {MOST, 0}, {0, -1}, {0, 128}, {0, LEAST}, {0, MOST}};
        for (int[] pair : wrong) {
            Checks.due(what + " of map " + pair[0] + " at " + pair[1], Checks.INDEX,
                () -> call.answer(pair[0], pair[1]));
        }
    }
}
