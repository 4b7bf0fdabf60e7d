import java.util.ArrayList;
import java.util.List;

/** Section 5: at each place of a text each kind of token, the end of the text, and errors side by side. */
final class GrammarTest {
    private static final String[] TOKENS = {"a", "zz", "map", "abcdefg", "9", "9999", "00009", ";", "", "#"};

    private static final String TWO = "level 1;map a;map b;";
    private static final String SIX = "level 1;map a;map b;map c;map d;map e;map f;";

    // A text up to a place, and the code of each of the tokens there; a dot where it is allowed.
    private static final String[][] PLACES = {
        {"", "1111111111"},
        {"level ", "1111221111"},
        {"level 1 ", "1111111..1"},
        {"level 1;", "11.1111111"},
        {"level 1;map ", "...1111111"},
        {"level 1;map a ", "1111111..1"},
        {"level 1;map a;", "11.1111111"},
        {"level 1;map a;map ", "3..1111111"},
        {"level 1;map map;map ", "..31111111"},
        {"level 1;fill ", "3331111111"},
        {TWO + "fill ", ".331111111"},
        {TWO + "clear ", ".331111111"},
        {TWO + "flip ", ".331111111"},
        {TWO + "or ", ".331111111"},
        {TWO + "tree ", ".331111111"},
        {TWO + "or b ", ".331111111"},
        {TWO + "or a ", ".331111111"},
        {TWO + "or a b ", "1111111..1"},
        {TWO + "fill a ", "1111.21111"},
        {TWO + "clear a ", "1111.21111"},
        {TWO + "flip a ", "1111.21111"},
        {TWO + "fill a 8 ", "1111.21111"},
        {TWO + "fill a 9 ", "1111.21111"},
        {TWO + "fill a 10 ", "1111221111"},
        {TWO + "clear a 10 ", "1111221111"},
        {TWO + "flip a 10 ", "1111221111"},
        {TWO + "fill a 8 9 ", "1111111..1"},
        {TWO + "clear a 8 9 ", "1111111..1"},
        {TWO + "flip a 8 9 ", "1111111..1"},
        {TWO + "tree a ", "1111.21111"},
        {TWO + "tree a 2 ", "1111.21551"},
        {TWO + "tree a 10 9 ", "1111521551"},
        {TWO + "tree a 10 8 ", "1111.21551"},
        {TWO + "tree a 10 8 9 ", "1111521..1"},
        {TWO + "tree a 2 1 ", "1111521..1"},
        {TWO + "tree a 0 ", "1111521..1"},
        {TWO + "tree a 85 ", "1111521..1"},
        {SIX, "1141111111"},
        {SIX + "flip f 3 3;", "1141111111"},
    };

    public static void main(String[] args) {
        for (String[] place : PLACES) {
            tokensAt(place[0], place[1]);
            otherBytesAt(place[0]);
        }
        levels();
        positions();
        bytesOfTrees();
        words();
        numbers();
        blanks();
        ends();
        theFirstError();
        wholeBuffer();
        Checks.finish();
    }

    private static void tokensAt(String place, String codes) {
        for (int i = 0; i < TOKENS.length; i++) {
            for (String behind : new String[] {"", " ", " #", ";9", " map 00001"}) {
                boolean end = TOKENS[i].isEmpty();
                if (end && !behind.isBlank()) {
                    continue;
                }
                String text = place + TOKENS[i] + behind;
                if (codes.charAt(i) == '.') {
                    dueAllowed(text, place.length(), end);
                } else {
                    Checks.dueError(text, codes.charAt(i) - '0', end ? text.length() : place.length());
                }
            }
        }
    }

    /** No error at this place; perhaps a later one. */
    private static void dueAllowed(String text, int place, boolean right) {
        QuarterMaps x = new QuarterMaps();
        int n = Checks.put(x, text);
        String answer = Checks.answerOf(() -> x.load(n));
        Checks.due("right up to " + place + ": " + text, true,
            () -> x.errorPosition() > place || x.parseError() == 0);
        Checks.due("the answer to " + text, x.parseError() != 0, () -> answer.equals(Checks.ARGUMENT));
        if (right) {
            Checks.due("the end of " + text, 0, () -> x.parseError());
        }
    }

    private static void otherBytesAt(String place) {
        int[] start = Checks.bytesOf(place);
        int[] text = java.util.Arrays.copyOf(start, start.length + 1);
        for (int sign = 0; sign < 256; sign++) {
            if (sign == ' ' || sign == ';' || sign >= '0' && sign <= '9' || sign >= 'a' && sign <= 'z') {
                continue;
            }
            text[start.length] = sign;
            QuarterMaps x = new QuarterMaps();
            int n = Checks.put(x, text);
            Checks.due("byte " + sign + " behind " + place, Checks.ARGUMENT, () -> x.load(n));
            Checks.due("its code", 1, () -> x.parseError());
            Checks.due("its position", start.length, () -> x.errorPosition());
        }
    }

    private static void levels() {
        for (int level = 0; level <= 9999; level = level < 12 ? level + 1 : level * 3) {
            String text = "level " + level;
            if (level >= 1 && level <= 4) {
                Checks.due(text, "" + level, () -> "" + Checks.loaded(text).count(1));
            } else {
                Checks.dueError(text, 2, 6);
            }
        }
        Checks.dueError("level 0000", 2, 6);
        Checks.dueError("level 0005", 2, 6);
        Checks.dueError("level 00000", 1, 6);
        Checks.dueError("level 99999", 1, 6);
        Checks.dueError("level 4294967297", 1, 6);
        Checks.due("leading zeros", 4, () -> Checks.loaded("level 0004").count(1));
    }

    private static void positions() {
        int[] sizes = {32, 128, 512, 2048};
        for (String line : new String[] {"fill", "clear", "flip"}) {
            for (int level = 1; level <= 4; level++) {
                int last = sizes[level - 1] - 1;
                String start = "level " + level + ";map a;" + line + " a ";
                int from = start.length();
                int ones = line.equals("clear") ? 0 : 1;
                Checks.due("the whole range", ones * (last + 1),
                    () -> Checks.loaded(start + "0 " + last).ones(0, 0, last));
                Checks.due("the first one", ones, () -> Checks.loaded(start + "0 0").ones(0, 0, 0));
                Checks.due("the last one", ones, () -> Checks.loaded(start + last + " " + last).ones(0, last, last));
                Checks.due("no other one", ones, () -> Checks.loaded(start + last + " " + last).ones(0, 0, last));
                int beyond = last + 1;
                Checks.dueError(start + beyond + " " + beyond, 2, from);
                Checks.dueError(start + beyond, 2, from);
                Checks.dueError(start + "9999 0", 2, from);
                Checks.dueError(start + "0 " + beyond, 2, from + 2);
                Checks.dueError(start + "0 9999", 2, from + 2);
                Checks.dueError(start + "1 0", 2, from + 2);
                String turned = start + last + " ";
                Checks.dueError(turned + (last - 1), 2, turned.length());
                Checks.dueError(turned + "0", 2, turned.length());
            }
        }
        Checks.due("fill, clear and flip take both ends", "0111101001000000", () -> Checks.bitsOf(
            Checks.loaded("level 1;map a;fill a 1 9;clear a 5 5;flip a 7 8"), 0, 0, 15));
    }

    private static void bytesOfTrees() {
        String start = "level 1;map a;tree a ";
        for (int head = 0; head < 1000; head = head < 300 ? head + 1 : head * 2) {
            String text = start + head;
            if (head > 255) {
                Checks.dueError(text, 2, start.length());
            } else if (head % 4 == 3) {
                Checks.dueError(text, 5, start.length());
            }
        }
        for (int leaf = 0; leaf < 1000; leaf = leaf < 300 ? leaf + 1 : leaf * 2) {
            String text = start + "10 7 " + leaf;
            if (leaf > 255) {
                Checks.dueError(text, 2, start.length() + 5);
                Checks.dueError(text.replace("10 7", "10 7 8"), 2, start.length() + 7);
            } else if (leaf == 0 || leaf == 255 || leaf == 7) {
                Checks.dueError(text, 5, start.length() + 5);
            } else {
                int want = leaf;
                Checks.due(text, "10 7 " + want, () -> Checks.treeOf(Checks.loaded(text), 0));
                Checks.dueError(text + " " + leaf, 5, text.length() + 1);
                Checks.dueError(text + " " + leaf + " 9999 #", 5, text.length() + 1);
            }
        }
        // Too many bytes: the first one of them, by its number first.
        Checks.dueError(start + "0 0 0", 5, start.length() + 2);
        Checks.dueError(start + "0 255 256", 5, start.length() + 2);
        Checks.dueError(start + "0 256 255", 2, start.length() + 2);
        Checks.dueError(start + "0 9999", 2, start.length() + 2);
        Checks.dueError(start + "0 10000", 1, start.length() + 2);
        // A wrong byte that is above 255, and one behind a tree that is no longer right.
        Checks.dueError(start + "2 256", 2, start.length() + 2);
        Checks.dueError(start + "3 256", 5, start.length());
        Checks.dueError(start + "2 00000", 1, start.length() + 2);
        // Too few bytes: at what is behind them, unless the grammar does not allow it.
        Checks.dueError(start + "2", 5, start.length() + 1);
        Checks.dueError(start + "2   ", 5, start.length() + 4);
        Checks.dueError(start + "2;", 5, start.length() + 1);
        Checks.dueError(start + "2  ;tree a 0", 5, start.length() + 3);
        Checks.dueError(start + "2 b", 1, start.length() + 2);
        Checks.dueError(start + "2 abcdefg", 1, start.length() + 2);
        Checks.dueError(start + "2 !", 1, start.length() + 2);
        Checks.dueError(start + "2 ,", 1, start.length() + 2);
        Checks.dueError("level 1;map a;tree a", 1, start.length() - 1);
        Checks.dueError("level 1;map a;tree a ;", 1, start.length());
        Checks.due("the last of two tree lines", "2 9",
            () -> Checks.treeOf(Checks.loaded(start + "10 7 8;fill a 30 31;tree a 2 9"), 0));
        Checks.due("a tree of another map", "0 10 7 8",
            () -> {
                QuarterMaps x = Checks.loaded("level 1;map a;map b;tree b 10 7 8");
                return Checks.treeOf(x, 0) + " " + Checks.treeOf(x, 1);
            });
    }

    private static void words() {
        Checks.due("one letter and six", "0 1",
            () -> {
                QuarterMaps x = Checks.loaded("level 1;map a;map zyxwvu");
                return x.find(Checks.put(x, "a")) + " " + x.find(Checks.put(x, "zyxwvu"));
            });
        Checks.dueError("level 1;map zyxwvut", 1, 12);
        Checks.dueError("level 1;map abcdef;fill abcdefg 0 1", 1, 24);
        Checks.dueError("level 1;map abcdef;abcdefg abcdef 0 1", 1, 19);
        Checks.dueError("levelll 1", 1, 0);
        Checks.dueError("leve 1", 1, 0);
        Checks.dueError("level 1;maps a", 1, 8);
        Checks.dueError("level 1;ma a", 1, 8);
        Checks.dueError("level 1;map a;fil a 0 1", 1, 14);
        Checks.dueError("level 1;map a;filll a 0 1", 1, 14);
        Checks.dueError("level 1;map a;trees a 0", 1, 14);
        Checks.dueError("level 1;map a;orr a a", 1, 14);
        Checks.dueError("level 1;map a;o a a", 1, 14);
        Checks.dueError("level 1;map a;and a a", 1, 14);
        Checks.dueError("level 1;map aA", 1, 13);
        Checks.dueError("level 1;map a_b", 1, 13);
        Checks.dueError("level 1;map a`", 1, 13);
        Checks.dueError("level 1;map z{", 1, 13);
        String[] quoted = {"level", "map", "fill", "clear", "flip", "or", "tree"};
        for (String name : quoted) {
            Checks.due("a map named " + name, 4, () -> Checks.loaded("level 1;map " + name + ";fill " + name
                + " 0 1;flip " + name + " 0 3;fill " + name + " 0 3;or " + name + " " + name).ones(0, 0, 31));
            Checks.dueError("level 1;map " + name + ";map " + name, 3, 17 + name.length());
        }
        Checks.dueError("level 1;map ab;map abc;fill abcd 0 1", 3, 28);
        Checks.dueError("level 1;map ab;map ba;map a;map b;map ab", 3, 38);
        // A map is known from its own line on.
        Checks.dueError("level 1;fill a 0 1;map a", 3, 13);
        Checks.dueError("level 1;map a;or a b;map b", 3, 19);
    }

    private static void numbers() {
        String start = "level 1;map a;fill a ";
        Checks.due("four digits", 28, () -> Checks.loaded(start + "0003 0030").ones(0, 0, 31));
        Checks.dueError(start + "00003 0030", 1, start.length());
        Checks.dueError(start + "0003 00030", 1, start.length() + 5);
        Checks.dueError(start + "9999999999 1", 1, start.length());
        Checks.dueError(start + "4294967296 1", 1, start.length());
        Checks.dueError(start + "3/ 4", 1, start.length() + 1);
        Checks.dueError(start + "3: 4", 1, start.length() + 1);
        Checks.dueError(start + "3.4", 1, start.length() + 1);
        Checks.dueError(start + "+3 4", 1, start.length());
        Checks.due("a digit behind a letter", 2, () -> Checks.loaded("level 1;map a;fill a3 4").ones(0, 0, 31));
        Checks.dueError("level 1;map a;fill a34", 2, 20);
        Checks.dueError("level 1;map a;fill a3", 1, 21);
    }

    private static void blanks() {
        Checks.due("blanks everywhere", 2,
            () -> Checks.loaded("   level   1  ;  map   a  ;   fill   a   3   4   ").ones(0, 0, 31));
        Checks.due("no blanks but those that separate", 2,
            () -> Checks.loaded("level1;map a;fill a3 4;map b;tree b2 9").count(0));
        Checks.dueError("level 1;mapa", 1, 8);
        Checks.dueError("lev el 1", 1, 0);
        Checks.dueError("level 1;map a b", 1, 14);
        Checks.dueError("level 1;map a;fill a 1 0 4", 2, 23);
        for (int sign : new int[] {0, 9, 10, 11, 12, 13, 31, 33, 127, 128, 160, 255}) {
            Checks.dueError("level" + (char) sign + "1", 1, 5);
        }
    }

    /** Each beginning of a text is one only where a line is complete. */
    private static void ends() {
        String text = "level 1;map a;fill a 3 31;clear a 4 5;or a a;tree a 46 17 18  ";
        String[] right = {"level 1", "level 1;map a", "level 1;map a;fill a 3 3", "level 1;map a;fill a 3 31"};
        List<String> whole = new ArrayList<>(List.of(right));
        for (String more : new String[] {";clear a 4 5", ";or a a", ";tree a 4"}) {
            whole.add(text.substring(0, text.indexOf(more) + more.length()));
        }
        for (int n = text.indexOf("17 1") + 4; n <= text.length(); n++) {
            whole.add(text.substring(0, n));
        }
        for (int n = 0; n <= text.length(); n++) {
            String start = text.substring(0, n);
            QuarterMaps x = new QuarterMaps();
            Checks.put(x, text);
            int length = n;
            if (whole.contains(start)) {
                Checks.due("load of " + start, n == 7 ? 0 : 1, () -> x.load(length));
                Checks.due("no error", "0 -1", () -> x.parseError() + " " + x.errorPosition());
            } else {
                Checks.due("load of " + start, Checks.ARGUMENT, () -> x.load(length));
                boolean behindBytes = start.matches(".*tree a 46.*");
                Checks.due("its code", behindBytes ? 5 : 1, () -> x.parseError());
            }
        }
    }

    private static void theFirstError() {
        Checks.dueError("level 9;map 1;#", 2, 6);
        Checks.dueError("level 1;map a;map a;fill b 99 1", 3, 18);
        Checks.dueError("level 1;map a;fill b 99 1", 3, 19);
        Checks.dueError("level 1;map a;fill a 99 1 #", 2, 21);
        Checks.dueError("level 1;map a;tree a 3;map a", 5, 21);
        Checks.dueError(SIX + "map a", 4, SIX.length());
        Checks.dueError(SIX + "map 1", 4, SIX.length());
        Checks.dueError(SIX + "map abcdefg", 4, SIX.length());
        Checks.dueError(SIX + "maps g", 1, SIX.length());
        Checks.dueError(SIX + "or a g;map h", 3, SIX.length() + 5);
        Checks.due("six maps", 6, () -> Checks.loaded(SIX + "or a f").count(0));
    }

    /** All 700 bytes can be a text. */
    private static void wholeBuffer() {
        String text = "level 1;map a" + " ".repeat(673) + ";fill a 0 31 ";
        Checks.due("bytes", 699, () -> text.length());
        Checks.due("a text of 700 bytes", 32, () -> Checks.loaded(text + " ").ones(0, 0, 31));
        Checks.dueError(text + ";", 1, 700);
        Checks.dueError(text + "1", 1, 699);
        StringBuilder many = new StringBuilder("level 1;map a");
        while (many.length() + 11 <= 700) {
            many.append(";flip a 0 9");
        }
        Checks.due("many lines", 10 * ((many.length() - 13) / 11 % 2), () -> Checks.loaded(many.toString()).ones(0, 0, 31));
        StringBuilder tree = new StringBuilder("level 4;map a;tree a");
        for (int value : Checks.fullTree()) {
            String more = " " + value;
            if (tree.length() + more.length() <= 700) {
                tree.append(more);
            }
        }
        Checks.dueError(tree.toString(), 5, tree.length());
    }
}
