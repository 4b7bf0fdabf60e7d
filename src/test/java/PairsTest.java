/** Promises 27 to 33: two maps. */
final class PairsTest {
    private interface OfTwo {
        Object answer(int map, int other);
    }

    public static void main(String[] args) {
        // a: 3 to 10, b: 0 to 7 and 100, c: 4 to 6, d: none
        QuarterMaps x = Checks.loaded("level 2;map a;fill a 3 10;map b;fill b 0 7;fill b 100 100;map c;fill c 4 6;map d");
        common(x);
        distance(x);
        differs(x);
        isWithin(x);
        alike(x);
        combined(x);
        nearest(x);
        withoutText();
        Checks.finish();
    }

    private static void common(QuarterMaps x) {
        Checks.due("common", 5, () -> x.common(0, 1));
        Checks.due("common", 5, () -> x.common(1, 0));
        Checks.due("common", 8, () -> x.common(0, 0));
        Checks.due("common", 0, () -> x.common(3, 1));
        dueIndex("common", (a, b) -> x.common(a, b));
    }

    private static void distance(QuarterMaps x) {
        Checks.due("distance", 7, () -> x.distance(0, 1));
        Checks.due("distance", 7, () -> x.distance(1, 0));
        Checks.due("distance", 0, () -> x.distance(2, 2));
        Checks.due("distance", 9, () -> x.distance(3, 1));
        dueIndex("distance", (a, b) -> x.distance(a, b));
    }

    private static void differs(QuarterMaps x) {
        Checks.due("differs", 0, () -> x.differs(0, 1));
        Checks.due("differs", 3, () -> x.differs(0, 2));
        Checks.due("differs", -1, () -> x.differs(1, 1));
        QuarterMaps last = Checks.loaded("level 4;map a;map b;flip b 2047 2047");
        Checks.due("differs at the end", 2047, () -> last.differs(0, 1));
        dueIndex("differs", (a, b) -> x.differs(a, b));
    }

    private static void isWithin(QuarterMaps x) {
        Checks.due("isWithin", false, () -> x.isWithin(0, 1));
        Checks.due("isWithin", true, () -> x.isWithin(2, 0));
        Checks.due("isWithin", false, () -> x.isWithin(0, 2));
        Checks.due("isWithin", true, () -> x.isWithin(3, 0));
        Checks.due("isWithin", true, () -> x.isWithin(1, 1));
        dueIndex("isWithin", (a, b) -> x.isWithin(a, b));
    }

    private static void alike(QuarterMaps x) {
        Checks.due("alike 0", 13, () -> x.alike(0, 1, 0));
        Checks.due("alike 1", 2, () -> x.alike(0, 1, 1));
        Checks.due("alike 2", 0, () -> x.alike(0, 1, 2));
        Checks.due("alike 2", 1, () -> x.alike(0, 0, 2));
        Checks.due("alike 0", 16, () -> x.alike(0, 0, 0));
        Checks.due("alike 1", 3, () -> x.alike(0, 2, 1));
        Checks.due("alike 3", Checks.INDEX, () -> x.alike(0, 1, 3));
        Checks.due("alike -1", Checks.INDEX, () -> x.alike(0, 1, -1));
        dueIndex("alike", (a, b) -> x.alike(a, b, 0));
    }

    private static void combined(QuarterMaps x) {
        // 0 to 10 and 100; 3 to 7; 8 to 10; 0 to 2, 8 to 10 and 100
        int[] due = {5, 3, 3, 5};
        for (int kind = 0; kind < 4; kind++) {
            int asked = kind;
            Checks.due("combined " + kind, due[kind], () -> x.combined(asked, 0, 1));
        }
        Checks.due("but, the other way", 5, () -> x.combined(2, 1, 0));
        Checks.due("unlike itself", 1, () -> x.combined(3, 1, 1));
        Checks.due("nothing is another one", 8, () -> x.ones(0, 0, 127));
        Checks.due("nothing can be undone", 0, () -> x.undoable());
        dueIndex("combined", (a, b) -> x.combined(9, a, b));
        Checks.due("combined", Checks.ARGUMENT, () -> x.combined(-1, 0, 1));
        Checks.due("combined", Checks.ARGUMENT, () -> x.combined(4, 0, 1));
    }

    private static void nearest(QuarterMaps x) {
        Checks.due("nearest", 2, () -> x.nearest(0));
        Checks.due("nearest", 2, () -> x.nearest(1));
        Checks.due("nearest", 3, () -> x.nearest(2));
        Checks.due("nearest", 2, () -> x.nearest(3));
        Checks.due("the smallest of several", 0, () -> Checks.loaded("level 1;map a;map b;map c").nearest(2));
        Checks.due("the smallest of several", 1, () -> Checks.loaded("level 1;map a;map b;map c").nearest(0));
        Checks.due("no other one", -1, () -> Checks.loaded("level 1;map a").nearest(0));
        Checks.due("nearest", Checks.INDEX, () -> x.nearest(4));
        Checks.due("nearest", Checks.INDEX, () -> x.nearest(-1));
    }

    private static void withoutText() {
        QuarterMaps x = new QuarterMaps();
        Checks.due("common", Checks.STATE, () -> x.common(-1, 0));
        Checks.due("distance", Checks.STATE, () -> x.distance(-1, 0));
        Checks.due("differs", Checks.STATE, () -> x.differs(-1, 0));
        Checks.due("isWithin", Checks.STATE, () -> x.isWithin(-1, 0));
        Checks.due("alike", Checks.STATE, () -> x.alike(-1, 0, 9));
        Checks.due("combined", Checks.STATE, () -> x.combined(9, -1, 0));
        Checks.due("nearest", Checks.STATE, () -> x.nearest(-1));
    }

    private static void dueIndex(String what, OfTwo call) {
        int[][] wrong = {{-1, 0}, {4, 0}, {0, -1}, {0, 4}, {Integer.MIN_VALUE, 0}, {0, Integer.MAX_VALUE}};
        for (int[] pair : wrong) {
            Checks.due(what + " of " + pair[0] + " and " + pair[1], Checks.INDEX,
                () -> call.answer(pair[0], pair[1]));
        }
    }
}
