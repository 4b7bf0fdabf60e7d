import java.nio.charset.StandardCharsets;

/** What the tests share: comparing answers, and putting texts and bytes into an object. */
final class Checks {
    static final String STATE = "throws.IllegalStateException";
    static final String INDEX = "throws.IndexOutOfBoundsException";
    static final String ARGUMENT = "throws.IllegalArgumentException";

    private static int wrong = 0;
    private static int made = 0;

    interface Call {
        Object answer();
    }

    private Checks() {
    }

    static String answerOf(Call call) {
        try {
            return String.valueOf(call.answer());
        } catch (RuntimeException e) {
            return "throws." + e.getClass().getSimpleName();
        }
    }

    static void due(String what, Object want, Call call) {
        made++;
        String got = answerOf(call);
        if (!got.equals(String.valueOf(want))) {
            wrong++;
            if (wrong <= 40) {
                System.out.println(what + " answered " + got + ", due is " + want);
            }
        }
    }

    static void finish() {
        System.out.println(made + " answers, " + wrong + " not as due");
        System.exit(wrong == 0 && made > 0 ? 0 : 1);
    }

    /** Appends the bytes, with blanks behind them up to twenty; returns how many they are. */
    static int put(QuarterMaps x, int... bytes) {
        for (int first = 0; first < bytes.length; first += 20) {
            int[] words = new int[5];
            for (int i = 0; i < 20; i++) {
                int value = first + i < bytes.length ? bytes[first + i] : ' ';
                words[i / 4] = words[i / 4] << 8 | value & 255;
            }
            x.append(words[0], words[1], words[2], words[3], words[4]);
        }
        return bytes.length;
    }

    static int put(QuarterMaps x, String text) {
        return put(x, bytesOf(text));
    }

    static int[] bytesOf(String text) {
        byte[] raw = text.getBytes(StandardCharsets.ISO_8859_1);
        int[] bytes = new int[raw.length];
        for (int i = 0; i < raw.length; i++) {
            bytes[i] = raw[i] & 255;
        }
        return bytes;
    }

    static QuarterMaps loaded(String text) {
        QuarterMaps x = new QuarterMaps();
        x.load(put(x, text));
        return x;
    }

    /** Loads a text on a new object that held another one; due are the error and its position. */
    static void dueError(String text, int code, int position) {
        QuarterMaps x = loaded("level 1;map kept;fill kept 3 5");
        int n = put(x, text);
        due("load of " + text, ARGUMENT, () -> x.load(n));
        due("error of " + text, code, () -> x.parseError());
        due("its position in " + text, position, () -> x.errorPosition());
        due("buffer behind " + text, 0, () -> x.buffered());
        due("maps kept behind " + text, 1, () -> x.count(0));
        due("bits kept behind " + text, 3, () -> x.ones(0, 0, 31));
    }

    static String writtenText(QuarterMaps x, int length) {
        StringBuilder written = new StringBuilder();
        for (int i = 0; i < length; i++) {
            written.append((char) x.textByte(i));
        }
        due("length of the text " + written, INDEX, () -> x.textByte(length));
        return written.toString();
    }

    static String bitsOf(QuarterMaps x, int map, int from, int to) {
        StringBuilder bits = new StringBuilder();
        for (int p = from; p <= to; p++) {
            bits.append(x.bit(map, p));
        }
        return bits.toString();
    }

    static String treeOf(QuarterMaps x, int map) {
        StringBuilder bytes = new StringBuilder();
        for (int i = 0; i < x.bytes(map); i++) {
            bytes.append(i == 0 ? "" : " ").append(x.byteAt(map, i));
        }
        return bytes.toString();
    }

    /** A tree of the level 4 in which each block is told: no leaf is that of the leaf ahead of it. */
    static int[] fullTree() {
        int[] tree = new int[341];
        int length = 0;
        for (int i = 0; i < 256; i++) {
            for (int heads = i == 0 ? 4 : Math.min(4, Integer.numberOfTrailingZeros(i) / 2); heads > 0; heads--) {
                tree[length] = 170;
                length++;
            }
            tree[length] = 1 + i * 101 % 254;
            length++;
        }
        return tree;
    }
}
