/** Promises 1 to 8: a new object, append, load and its errors, find, checks. */
final class InputTest {
    public static void main(String[] args) {
        aNewObject();
        append();
        load();
        loadReplaces();
        grammarErrors();
        boundErrors();
        nameErrors();
        treeErrors();
        find();
        findByEachLetter();
        checks();
        Checks.finish();
    }

    private static void aNewObject() {
        QuarterMaps x = new QuarterMaps();
        Checks.due("NONE", -1, () -> QuarterMaps.NONE);
        Checks.due("buffered", 0, () -> x.buffered());
        Checks.due("parseError", 0, () -> x.parseError());
        Checks.due("errorPosition", -1, () -> x.errorPosition());
        Checks.due("undoable", 0, () -> x.undoable());
        Checks.due("textByte", Checks.INDEX, () -> x.textByte(0));
        Checks.due("count", Checks.STATE, () -> x.count(0));
    }

    private static void append() {
        QuarterMaps x = new QuarterMaps();
        for (int calls = 1; calls <= 35; calls++) {
            int held = 20 * calls;
            Checks.due("append", held, () -> x.append(0x6c657665, 0x6c20313b, 0x6d617020, 0x613b6d61, 0x7020623b));
            Checks.due("buffered", held, () -> x.buffered());
        }
        Checks.due("append beyond 700", -1, () -> x.append(0, 0, 0, 0, 0));
        Checks.due("buffered", 700, () -> x.buffered());
        Checks.due("the bytes are in order", 2, () -> x.load(19));
        Checks.due("append", 20, () -> x.append(1, 2, 3, 4, 5));
        QuarterMaps high = Checks.loaded("level 1;map a");
        Checks.put(high, 0x02, 0xfe, 0xff);
        Checks.due("a byte with the highest bit is no sign", 7, () -> high.read(0, 2));
    }

    private static void load() {
        QuarterMaps x = new QuarterMaps();
        int n = Checks.put(x, "level 1;map a;fill a 3 10");
        Checks.due("load of more than the buffer", Checks.INDEX, () -> x.load(41));
        Checks.due("load of less than nothing", Checks.INDEX, () -> x.load(-1));
        Checks.due("load of less than nothing", Checks.INDEX, () -> x.load(Integer.MIN_VALUE));
        Checks.due("buffered", 40, () -> x.buffered());
        Checks.due("load", 1, () -> x.load(n));
        Checks.due("buffered", 0, () -> x.buffered());
        Checks.due("ones", 8, () -> x.ones(0, 0, 31));
        Checks.due("a text without maps", 0, () -> Checks.loaded("  level 4  ").count(0));
        Checks.due("tokens side by side", 1, () -> Checks.loaded("level1;map a;fill a0 31").count(0));
        Checks.due("leading zeros", 2, () -> Checks.loaded("level 0002;map a;fill a 0001 0127").count(1));
        Checks.due("words of the grammar are names", 24,
            () -> Checks.loaded("level 1;map map;map fill;fill map 0 7;fill fill 8 31;or map fill;clear map 0 7")
                .ones(0, 0, 31));
        Checks.due("six maps", 6,
            () -> Checks.loaded("level 1;map a;map b;map c;map d;map e;map ffffff;or a b;flip ffffff 3 3").count(0));
        Checks.due("clear and flip", "00011110",
            () -> Checks.bitsOf(Checks.loaded("level 1;map a;fill a 0 7;clear a 0 4;flip a 3 7;flip a 5 6;flip a 5 5"
                + ";fill a 5 5;flip a 7 7;clear a 7 7"), 0, 0, 7));
        Checks.due("fill of what is full in part", "00011111", () ->
            Checks.bitsOf(Checks.loaded("level 1;map zaz;fill zaz 3 5;fill zaz 4 7"), 0, 0, 7));
        Checks.due("bytes behind the text are none of it", 1, () -> {
            Checks.put(x, "level 12");
            return x.load(7) + x.count(1);
        });
        Checks.due("bytes behind the text are none of it", 2, () -> {
            Checks.put(x, "level 2;map azz");
            return x.load(14) + x.find(Checks.put(x, "az")) + 1;
        });
        Checks.due("bytes behind the text are none of it", Checks.ARGUMENT, () -> {
            Checks.put(x, "level 2;map a");
            return x.load(12);
        });
        Checks.due("the error is at the end of the text", 12, () -> x.errorPosition());
        Checks.due("or leaves the second map", "01110111 00110011",
            () -> {
                QuarterMaps y = Checks.loaded("level 1;map a;map b;fill a 1 1;fill a 5 5;fill b 2 3;fill b 6 7;or a b");
                return Checks.bitsOf(y, 0, 0, 7) + " " + Checks.bitsOf(y, 1, 0, 7);
            });
        Checks.due("or of the last two of six", "0 0 0 0 3 2",
            () -> onesOf(Checks.loaded("level 1;map a;map b;map c;map d;map e;map f;fill e 3 4;fill f 4 5;or e f")));
        Checks.due("or of the last and the first one", "2 0 0 0 0 4",
            () -> onesOf(Checks.loaded("level 1;map a;map b;map c;map d;map e;map f;fill a 0 1;fill f 4 5;or f a")));
        Checks.due("each line has its own map", "1 2 3 4 5 6", () -> onesOf(Checks.loaded("level 1;map a;map b;map c"
            + ";map d;map e;map f;fill a 9 9;flip b 9 10;tree c 8 7;fill d 0 31;clear d 4 31;or e d;fill e 7 7"
            + ";or f e;flip f 31 31")));
        Checks.due("a tree line makes the map anew", "10 248 7",
            () -> Checks.treeOf(Checks.loaded("level 1;map a;fill a 20 31;tree a 10 248 007;or a a"), 0));
    }

    private static String onesOf(QuarterMaps x) {
        StringBuilder ones = new StringBuilder();
        for (int map = 0; map < x.count(0); map++) {
            ones.append(map == 0 ? "" : " ").append(x.ones(map, 0, 31));
        }
        return ones.toString();
    }

    private static void loadReplaces() {
        QuarterMaps same = Checks.loaded("level 1;map a;map b;map c;fill a 0 31;fill b 0 31;fill c 0 31");
        Checks.due("all maps are new ones", 3, () -> same.load(Checks.put(same, "level 1;map a;map b;map c")));
        Checks.due("they are empty", "0 0 0", () -> onesOf(same));
        same.fill(1, 4, 5, 1);
        Checks.due("a wrong text", Checks.ARGUMENT,
            () -> same.load(Checks.put(same, "level 1;map a;map b;map c;fill a 0 31;fill b 0 31;fill c 0 32")));
        Checks.due("the maps stay", "0 2 0", () -> onesOf(same));
        Checks.due("the names stay", 2, () -> same.find(Checks.put(same, "c")));
        Checks.due("a wrong text", Checks.ARGUMENT, () -> same.load(Checks.put(same, "level 2;map zz;map c;")));
        Checks.due("the names stay", "-1 2", () -> same.find(Checks.put(same, "zz")) + " "
            + same.find(Checks.put(same, "c")));
        Checks.due("the level stays", 1, () -> same.count(1));
        Checks.due("names are replaced", "1 -1", () -> same.load(Checks.put(same, "level 1;map zz")) + " "
            + same.find(Checks.put(same, "c")));
        QuarterMaps x = Checks.loaded("level 2;map a;map b;fill b 0 3;fill a 0 127");
        x.fill(0, 0, 5, 1);
        x.save(0);
        x.save(1);
        Checks.due("writeBits ahead of load", 3, () -> x.writeBits(1, 2, 4));
        int n = Checks.put(x, "level 1;map c");
        Checks.due("parse fails", Checks.ARGUMENT, () -> x.load(n - 1));
        Checks.due("a change stays undoable behind a wrong text", 1, () -> x.undoable());
        int again = Checks.put(x, "level 1;map c");
        Checks.due("load", 1, () -> x.load(again));
        Checks.due("error is gone", 0, () -> x.parseError());
        Checks.due("its position is gone", -1, () -> x.errorPosition());
        Checks.due("level", 1, () -> x.count(1));
        Checks.due("the map is empty", 0, () -> x.ones(0, 0, 31));
        Checks.due("nothing can be undone", 0, () -> x.undoable());
        Checks.due("nothing is saved", Checks.STATE, () -> x.restore(0));
        Checks.due("nothing is saved", Checks.STATE, () -> x.restore(1));
        Checks.due("the text stays", (int) '0', () -> x.textByte(2));
        Checks.put(x, "level");
        Checks.due("parse fails", Checks.ARGUMENT, () -> x.load(5));
        Checks.due("index", Checks.INDEX, () -> x.load(1));
        Checks.due("error stays", 1, () -> x.parseError());
        Checks.due("position stays", 5, () -> x.errorPosition());
    }

    private static void grammarErrors() {
        Checks.dueError("", 1, 0);
        Checks.dueError("   ", 1, 3);
        Checks.dueError("level", 1, 5);
        Checks.dueError("level  ", 1, 7);
        Checks.dueError("levels 1", 1, 0);
        Checks.dueError(" Level 1", 1, 1);
        Checks.dueError("1 level", 1, 0);
        Checks.dueError("level a", 1, 6);
        Checks.dueError("level 00001", 1, 6);
        Checks.dueError("level 1 1", 1, 8);
        Checks.dueError("level 1;", 1, 8);
        Checks.dueError("level 1;;map a", 1, 8);
        Checks.dueError("level 1;mapa", 1, 8);
        Checks.dueError("level 1;map", 1, 11);
        Checks.dueError("level 1;map 1", 1, 12);
        Checks.dueError("level 1;map abcdefg", 1, 12);
        Checks.dueError("level 1;map a1", 1, 13);
        Checks.dueError("level 1;map a,", 1, 13);
        Checks.dueError("level 1;map a\t", 1, 13);
        Checks.dueError("level 1;map a\u00e9", 1, 13);
        Checks.dueError("level 1;map a b", 1, 14);
        Checks.dueError("level 1;map a;set a 0 1", 1, 14);
        Checks.dueError("level 1;map a;fill 0 1", 1, 19);
        Checks.dueError("level 1;map a;fill a", 1, 20);
        Checks.dueError("level 1;map a;fill a;", 1, 20);
        Checks.dueError("level 1;map a;fill a 1", 1, 22);
        Checks.dueError("level 1;map a;fill a 1 b", 1, 23);
        Checks.dueError("level 1;map a;fill a 1 00002", 1, 23);
        Checks.dueError("level 1;map a;fill a 1 2 3", 1, 25);
        Checks.dueError("level 1;map a;fill a -1 2", 1, 21);
        Checks.dueError("level 1;map a;or a", 1, 18);
        Checks.dueError("level 1;map a;or a;", 1, 18);
        Checks.dueError("level 1;map a;or a 1", 1, 19);
        Checks.dueError("level 1;map a;or a a a", 1, 21);
        Checks.dueError("level 1;map a;tree a", 1, 20);
        Checks.dueError("level 1;map a;tree a;", 1, 20);
        Checks.dueError("level 1;map a;tree a b", 1, 21);
        Checks.dueError("level 1;map a;level 1", 1, 14);
    }

    private static void boundErrors() {
        Checks.dueError("level 0", 2, 6);
        Checks.dueError("level 5", 2, 6);
        Checks.dueError("level 9999;", 2, 6);
        Checks.dueError("level 1;map a;fill a 32 40", 2, 21);
        Checks.dueError("level 1;map a;clear a 31 32", 2, 25);
        Checks.dueError("level 1;map a;flip a 3 2", 2, 23);
        Checks.dueError("level 2;map a;fill a 0 128", 2, 23);
        Checks.dueError("level 3;map a;fill a 0 512", 2, 23);
        Checks.dueError("level 4;map a;fill a 0 2048", 2, 23);
        Checks.due("the last positions", 1, () -> Checks.loaded("level 4;map a;fill a 2047 2047").ones(0, 0, 2047));
        Checks.due("the last positions", 1, () -> Checks.loaded("level 3;map a;fill a 511 511").ones(0, 0, 511));
        Checks.due("the last positions", 1, () -> Checks.loaded("level 2;map a;fill a 127 127").ones(0, 0, 127));
        Checks.due("the last positions", 1, () -> Checks.loaded("level 1;map a;fill a 31 31").ones(0, 0, 31));
    }

    private static void nameErrors() {
        Checks.dueError("level 1;map a;map b;map a", 3, 24);
        Checks.dueError("level 1;fill a 0 1", 3, 13);
        Checks.dueError("level 1;map a;fill b 0 1", 3, 19);
        Checks.dueError("level 1;map a;or a b", 3, 19);
        Checks.dueError("level 1;map a;or b a", 3, 17);
        Checks.dueError("level 1;map a;tree b 0", 3, 19);
        Checks.dueError("level 1;map ab;map abc;map aba;map ba;fill abaa 0 1", 3, 43);
        Checks.dueError("level 1;map a;map b;map c;map d;map e;map f;map a", 4, 44);
        Checks.dueError("level 1;map a;map b;map c;map d;map e;map f;map", 4, 44);
        Checks.dueError("level 1;map a;map b;map c;map d;map e;map f;fill g 0 1", 3, 49);
    }

    private static void treeErrors() {
        Checks.dueError("level 1;map a;tree a 256", 2, 21);
        Checks.dueError("level 1;map a;tree a 0 256", 2, 23);
        Checks.dueError("level 1;map a;tree a 0 255", 5, 23);
        Checks.dueError("level 1;map a;tree a 0 00001", 1, 23);
        Checks.dueError("level 1;map a;tree a 3", 5, 21);
        Checks.dueError("level 1;map a;tree a 2", 5, 22);
        Checks.dueError("level 1;map a;tree a 2 ", 5, 23);
        Checks.dueError("level 1;map a;tree a 2 ;map b", 5, 23);
        Checks.dueError("level 1;map a;tree a 2 map", 1, 23);
        Checks.dueError("level 1;map a;tree a 0 map", 1, 23);
        Checks.dueError("level 1;map a;tree a 2 0", 5, 23);
        Checks.dueError("level 1;map a;tree a 2 255;", 5, 23);
        Checks.dueError("level 1;map a;tree a 10 7 7", 5, 26);
        Checks.dueError("level 1;map a;tree a 138 7 8 8", 5, 29);
        Checks.dueError("level 2;map a;tree a 2 0", 5, 23);
        Checks.dueError("level 2;map a;tree a 2 85", 5, 23);
        Checks.dueError("level 2;map a;tree a 10 1 1", 5, 26);
        Checks.dueError("level 2;map a;tree a 10 2 9 2 9", 5, 30);
        Checks.due("the same byte in another block", "10 2 9 8 9",
            () -> Checks.treeOf(Checks.loaded("level 2;map a;tree a 10 2 9 8 9"), 0));
        Checks.due("an older one again", "138 7 8 7",
            () -> Checks.treeOf(Checks.loaded("level 1;map a;tree a 42 7 8 7;clear a 16 31;tree a 138 7 8 7"), 0));
    }

    private static void find() {
        QuarterMaps x = Checks.loaded("level 1;map ab;map abcdef;map a");
        Checks.due("find ab", 0, () -> x.find(Checks.put(x, "ab")));
        Checks.due("find abcdef", 1, () -> x.find(Checks.put(x, "abcdef")));
        Checks.due("buffered", 0, () -> x.buffered());
        Checks.due("find a", 2, () -> x.find(Checks.put(x, "a")));
        Checks.due("find of a part of the buffer", 2, () -> {
            Checks.put(x, "abcdefgh");
            return x.find(1);
        });
        Checks.due("the rest is gone, too", 0, () -> x.buffered());
        Checks.due("find b", -1, () -> x.find(Checks.put(x, "b")));
        Checks.due("find nothing", -1, () -> x.find(0));
        Checks.due("find a blank", -1, () -> x.find(Checks.put(x, " ")));
        Checks.due("find with a blank ahead", -1, () -> x.find(Checks.put(x, " ab")));
        Checks.due("find with a blank behind", -1, () -> x.find(Checks.put(x, "ab ")));
        Checks.due("find with a digit", -1, () -> x.find(Checks.put(x, "ab1")));
        Checks.due("find with an upper-case letter", -1, () -> x.find(Checks.put(x, "AB")));
        Checks.due("find of 7 letters", -1, () -> x.find(Checks.put(x, "abcdefg")));
        Checks.put(x, "ab");
        Checks.due("find too many", Checks.INDEX, () -> x.find(21));
        Checks.due("find fewer than none", Checks.INDEX, () -> x.find(-1));
        Checks.due("the buffer stays", 20, () -> x.buffered());
        Checks.due("find nothing of something", -1, () -> x.find(0));
        Checks.due("the buffer is empty", 0, () -> x.buffered());
        QuarterMaps fresh = new QuarterMaps();
        Checks.put(fresh, "ab");
        Checks.due("find without text", Checks.STATE, () -> fresh.find(99));
        Checks.due("the buffer stays", 20, () -> fresh.buffered());
    }

    /** Names are told apart by each of their letters, and by how many they are. */
    private static void findByEachLetter() {
        for (String name : new String[] {"a", "z", "q", "aa", "zz", "aq", "map", "level", "aaaaaa", "zzzzzz", "qpqpqp"}) {
            for (int at = 0; at < name.length(); at++) {
                QuarterMaps x = Checks.loaded("level 1;map " + name);
                for (char letter = 'a'; letter <= 'z'; letter++) {
                    String asked = name.substring(0, at) + letter + name.substring(at + 1);
                    Checks.due("find " + asked + " among " + name, asked.equals(name) ? 0 : -1,
                        () -> x.find(Checks.put(x, asked)));
                    String inserted = name.substring(0, at) + letter + name.substring(at);
                    Checks.due("find " + inserted + " among " + name, -1, () -> x.find(Checks.put(x, inserted)));
                }
                String shorter = name.substring(0, at) + name.substring(at + 1);
                Checks.due("find " + shorter + " among " + name, -1, () -> x.find(Checks.put(x, shorter)));
            }
        }
        QuarterMaps six = Checks.loaded("level 1;map baaaaa;map abaaaa;map aabaaa;map aaabaa;map aaaaba;map aaaaab");
        for (int map = 0; map < 6; map++) {
            int want = map;
            String name = "aaaaa".substring(0, map) + "b" + "aaaaa".substring(map);
            Checks.due("find " + name, want, () -> six.find(Checks.put(six, name)));
        }
        Checks.due("find aaaaaa", -1, () -> six.find(Checks.put(six, "aaaaaa")));
    }

    private static void checks() {
        dueChecks(1, -1, 0);
        dueChecks(1, -1, 85);
        dueChecks(1, -1, 10, 7, 8);
        dueChecks(1, 0);
        dueChecks(1, 0, 3);
        dueChecks(1, 0, 192);
        dueChecks(1, 1, 2, 0);
        dueChecks(1, 1, 2, 255);
        dueChecks(1, 2, 10, 7, 7);
        dueChecks(1, 2, 10, 7);
        dueChecks(1, 3, 10, 7, 8, 0);
        dueChecks(1, 1, 0, 0, 0);
        dueChecks(1, 2, 14, 7, 8);
        dueChecks(1, -1, 46, 7, 8);
        dueChecks(1, 0, 12, 7);
        dueChecks(2, 1, 2, 0);
        dueChecks(2, -1, 2, 1);
        dueChecks(2, 1, 10, 3);
        dueChecks(2, 2, 10, 1, 1);
        dueChecks(2, 3, 10, 1, 2, 0);
        dueChecks(2, 2, 10, 1, 85);
        dueChecks(2, -1, 46, 1, 2, 1);
        dueChecks(3, -1, 2, 2, 2, 9);
        dueChecks(3, 3, 2, 2, 2, 0);
        dueChecks(3, 6, 10, 2, 2, 9, 2, 2, 9);
        dueChecks(3, 4, 2, 10, 1, 2, 255);
        dueChecks(4, 4, 2, 2, 2, 2);
        QuarterMaps x = Checks.loaded("level 1;map a;fill a 0 4");
        Checks.put(x, 0, 0);
        Checks.due("checks too many", Checks.INDEX, () -> x.checks(21));
        Checks.due("checks fewer than none", Checks.INDEX, () -> x.checks(-1));
        Checks.due("the buffer stays", 20, () -> x.buffered());
        Checks.due("checks", -1, () -> x.checks(1));
        Checks.due("the buffer is empty", 0, () -> x.buffered());
        Checks.due("no map is another one", 5, () -> x.ones(0, 0, 31));
        QuarterMaps fresh = new QuarterMaps();
        Checks.put(fresh, 0);
        Checks.due("checks without text", Checks.STATE, () -> fresh.checks(1));
        Checks.due("the buffer stays", 20, () -> fresh.buffered());
    }

    private static void dueChecks(int level, int want, int... bytes) {
        QuarterMaps x = Checks.loaded("level " + level);
        int n = Checks.put(x, bytes);
        Checks.due("checks of " + java.util.Arrays.toString(bytes) + " at level " + level, want, () -> x.checks(n));
    }
}
