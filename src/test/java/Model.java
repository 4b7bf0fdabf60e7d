import java.util.ArrayDeque;
import java.util.ArrayList;
import java.util.Arrays;
import java.util.Collections;
import java.util.Deque;
import java.util.List;
import java.util.regex.Matcher;
import java.util.regex.Pattern;

/** The class once more, told as the document tells it and not made to be fast: maps are texts of 0 and 1. */
public final class Model {
    private final List<Integer> buffer = new ArrayList<>();
    private List<String> names = new ArrayList<>();
    private List<String> maps = new ArrayList<>();
    private Deque<List<String>> past = new ArrayDeque<>();
    private final List<List<String>> slots = new ArrayList<>(Arrays.asList(null, null));
    private int level;
    private int error;
    private int errorPosition = -1;
    private String text = "";

    // ---- trees

    private static int size(int level) {
        return level == 0 ? 8 : 4 * size(level - 1);
    }

    private static boolean uniform(String bits) {
        return !bits.contains("0") || !bits.contains("1");
    }

    private static String quarter(String bits, int i) {
        int length = bits.length() / 4;
        return bits.substring(i * length, (i + 1) * length);
    }

    private static int[] codes(String bits) {
        int[] codes = new int[4];
        String last = "";
        for (int i = 0; i < 4; i++) {
            String q = quarter(bits, i);
            if (uniform(q)) {
                codes[i] = q.charAt(0) - '0';
            } else if (q.equals(last)) {
                codes[i] = 3;
            } else {
                codes[i] = 2;
                last = q;
            }
        }
        return codes;
    }

    static List<Integer> tree(String bits) {
        if (bits.length() == 8) {
            return List.of(Integer.parseInt(new StringBuilder(bits).reverse().toString(), 2));
        }
        int[] codes = codes(bits);
        List<Integer> bytes = new ArrayList<>();
        bytes.add(codes[0] + 4 * codes[1] + 16 * codes[2] + 64 * codes[3]);
        for (int i = 0; i < 4; i++) {
            if (codes[i] == 2) {
                bytes.addAll(tree(quarter(bits, i)));
            }
        }
        return bytes;
    }

    private static String spelled(String bits) {
        if (bits.length() == 8) {
            return String.format("%02x", tree(bits).get(0));
        }
        StringBuilder out = new StringBuilder("(");
        int[] codes = codes(bits);
        for (int i = 0; i < 4; i++) {
            out.append(codes[i] == 2 ? spelled(quarter(bits, i)) : "-+?=".substring(codes[i], codes[i] + 1));
        }
        return out.append(")").toString();
    }

    /** A block as the tree of a map tells it: where it is, and of its tree. */
    record Told(int level, int block, int code, int start, boolean told) {
    }

    /** All blocks whose code a head tells, and the whole map, in the order of the tree. */
    private static int list(String bits, int level, int block, int start, List<Told> into) {
        if (level == 0) {
            return start + 1;
        }
        int[] codes = codes(bits);
        int at = start + 1;
        for (int i = 0; i < 4; i++) {
            into.add(new Told(level - 1, 4 * block + i, codes[i], codes[i] == 2 ? at : -1, codes[i] == 2));
            if (codes[i] == 2) {
                at = list(quarter(bits, i), level - 1, 4 * block + i, at, into);
            }
        }
        return at;
    }

    private List<Told> told(String bits) {
        List<Told> all = new ArrayList<>();
        all.add(new Told(level, 0, -1, 0, true));
        list(bits, level, 0, 0, all);
        return all;
    }

    private static int tellerIn(String bits, int position, int start) {
        if (bits.length() == 8) {
            return start;
        }
        int[] codes = codes(bits);
        int length = bits.length() / 4;
        int q = position / length;
        if (codes[q] < 2) {
            return start;
        }
        while (codes[q] != 2) {
            q--;
        }
        int at = start + 1;
        for (int i = 0; i < q; i++) {
            if (codes[i] == 2) {
                at += tree(quarter(bits, i)).size();
            }
        }
        return tellerIn(quarter(bits, q), position % length, at);
    }

    // ---- reading

    /** Thrown where a tree does not go on. */
    private static final class Stop extends RuntimeException {
        final int position;

        Stop(int position) {
            this.position = position;
        }
    }

    private static String readBlock(List<Integer> bytes, int[] at, int level, String twin, boolean whole) {
        if (at[0] >= bytes.size()) {
            throw new Stop(at[0]);
        }
        int here = bytes.get(at[0]);
        StringBuilder bits = new StringBuilder();
        if (level == 0) {
            for (int k = 0; k < 8; k++) {
                bits.append(here >> k & 1);
            }
        } else {
            int seen = 0;
            for (int i = 0; i < 4; i++) {
                int code = here >> 2 * i & 3;
                if (code == 3 && seen == 0) {
                    throw new Stop(at[0]);
                }
                seen += code == 2 ? 1 : 0;
            }
        }
        at[0]++;
        String last = "";
        for (int i = 0; level > 0 && i < 4; i++) {
            int code = here >> 2 * i & 3;
            if (code < 2) {
                bits.append(("" + code).repeat(size(level - 1)));
            } else {
                if (code == 2) {
                    last = readBlock(bytes, at, level - 1, last, false);
                }
                bits.append(last);
            }
        }
        String all = bits.toString();
        if (!whole && (uniform(all) || all.equals(twin))) {
            throw new Stop(at[0] - 1);
        }
        return all;
    }

    /** The bits of a tree; throws Stop where it is wrong. */
    private static String bitsOf(List<Integer> bytes, int level) {
        int[] at = {0};
        String bits = readBlock(bytes, at, level, "", true);
        if (at[0] < bytes.size()) {
            throw new Stop(at[0]);
        }
        return bits;
    }

    /** Where the bytes are wrong at this level; -1 if they are a tree. */
    static int wrongAt(List<Integer> bytes, int level) {
        try {
            bitsOf(bytes, level);
            return -1;
        } catch (Stop stop) {
            return stop.position;
        }
    }

    // ---- input

    public int append(int a, int b, int c, int d, int e) {
        if (buffer.size() > 680) {
            return -1;
        }
        for (int word : new int[] {a, b, c, d, e}) {
            for (byte value : java.nio.ByteBuffer.allocate(4).putInt(word).array()) {
                buffer.add(value & 255);
            }
        }
        return buffer.size();
    }

    private List<Integer> take(int n) {
        if (n < 0 || n > buffer.size()) {
            throw new IndexOutOfBoundsException();
        }
        List<Integer> taken = new ArrayList<>(buffer.subList(0, n));
        buffer.clear();
        return taken;
    }

    private static String string(List<Integer> bytes) {
        StringBuilder out = new StringBuilder();
        for (int value : bytes) {
            out.append((char) value);
        }
        return out.toString();
    }

    private static final class Wrong extends RuntimeException {
        final int code;
        final int position;

        Wrong(int code, int position) {
            this.code = code;
            this.position = position;
        }
    }

    private static final Pattern TOKEN = Pattern.compile(" *([a-z]+|[0-9]+|;|[^ ]|$)", Pattern.DOTALL);

    /** A text that is parsed: its tokens, the last one empty, and what is made so far. */
    private static final class Text {
        final List<String> tokens = new ArrayList<>();
        final List<Integer> starts = new ArrayList<>();
        final List<String> names = new ArrayList<>();
        final List<String> maps = new ArrayList<>();
        int level;
        int at;

        Text(String text) {
            Matcher m = TOKEN.matcher(text);
            int from = 0;
            do {
                m.find(from);
                tokens.add(m.group(1));
                starts.add(m.start(1));
                from = m.end();
            } while (!tokens.get(tokens.size() - 1).isEmpty());
        }

        String token() {
            return tokens.get(at);
        }

        void require(boolean right, int code) {
            if (!right) {
                throw new Wrong(code, starts.get(at));
            }
        }

        String word() {
            require(token().matches("[a-z]{1,6}"), 1);
            return token();
        }

        int number(int least, int most) {
            require(token().matches("[0-9]{1,4}"), 1);
            int value = Integer.parseInt(token());
            require(value >= least && value <= most, 2);
            at++;
            return value;
        }

        int map() {
            int map = names.indexOf(word());
            require(map >= 0, 3);
            at++;
            return map;
        }

        void parse() {
            require(token().equals("level"), 1);
            at++;
            level = number(1, 4);
            while (!token().isEmpty()) {
                require(token().equals(";"), 1);
                at++;
                line();
            }
        }

        void line() {
            String first = word();
            require(List.of("map", "fill", "clear", "flip", "or", "tree").contains(first), 1);
            require(!first.equals("map") || maps.size() < 6, 4);
            at++;
            if (first.equals("map")) {
                require(!names.contains(word()), 3);
                names.add(token());
                maps.add("0".repeat(size(level)));
                at++;
                return;
            }
            int map = map();
            if (first.equals("or")) {
                int other = map();
                maps.set(map, merged(0, maps.get(map), maps.get(other)));
            } else if (first.equals("tree")) {
                tree(map);
            } else {
                int from = number(0, size(level) - 1);
                int to = number(from, size(level) - 1);
                int how = first.equals("fill") ? 1 : first.equals("clear") ? 0 : 2;
                maps.set(map, edited(maps.get(map), from, to, how));
            }
        }

        void tree(int map) {
            List<Integer> bytes = new ArrayList<>();
            do {
                int here = at;
                bytes.add(number(0, 255));
                int wrong = wrongAt(bytes, level);
                if (wrong >= 0 && wrong < bytes.size()) {
                    at = here;
                    require(false, 5);
                }
            } while (token().matches("[0-9]+"));
            require(token().isEmpty() || token().equals(";"), 1);
            require(wrongAt(bytes, level) < 0, 5);
            maps.set(map, bitsOf(bytes, level));
        }
    }

    public int load(int n) {
        Text parsed = new Text(string(take(n)));
        try {
            parsed.parse();
        } catch (Wrong wrong) {
            error = wrong.code;
            errorPosition = wrong.position;
            throw new IllegalArgumentException();
        }
        error = 0;
        errorPosition = -1;
        level = parsed.level;
        names = parsed.names;
        maps = parsed.maps;
        past.clear();
        slots.set(0, null);
        slots.set(1, null);
        return maps.size();
    }

    public int parseError() {
        return error;
    }

    public int errorPosition() {
        return errorPosition;
    }

    public int buffered() {
        return buffer.size();
    }

    public int find(int n) {
        text();
        return names.indexOf(string(take(n)));
    }

    public int checks(int n) {
        text();
        return wrongAt(take(n), level);
    }

    // ---- requirements

    private void text() {
        if (level == 0) {
            throw new IllegalStateException();
        }
    }

    private static void index(boolean right) {
        if (!right) {
            throw new IndexOutOfBoundsException();
        }
    }

    private static void argument(boolean right) {
        if (!right) {
            throw new IllegalArgumentException();
        }
    }

    private String map(int map) {
        text();
        index(map >= 0 && map < maps.size());
        return maps.get(map);
    }

    private void range(int from, int to) {
        index(from >= 0 && from <= to && to < size(level));
    }

    private void blockOf(int level, int block) {
        index(level >= 0 && level <= this.level);
        index(block >= 0 && block < size(this.level) / size(level));
    }

    private static int ones(String bits) {
        return bits.replace("0", "").length();
    }

    // ---- bits

    public int count(int what) {
        text();
        argument(what >= 0 && what < 4);
        int sum = 0;
        for (String map : maps) {
            sum += tree(map).size();
        }
        return new int[] {maps.size(), level, size(level), sum}[what];
    }

    public int bit(int map, int position) {
        String bits = map(map);
        range(position, position);
        return bits.charAt(position) - '0';
    }

    public int ones(int map, int from, int to) {
        String bits = map(map);
        range(from, to);
        return ones(bits.substring(from, to + 1));
    }

    public int next(int map, int position, int bit) {
        String bits = map(map);
        range(position, position);
        argument(bit == 0 || bit == 1);
        return bits.indexOf('0' + bit, position);
    }

    public int select(int map, int k) {
        String bits = map(map);
        index(k >= 0);
        int at = -1;
        for (int i = 0; i <= k; i++) {
            at = bits.indexOf('1', at + 1);
            if (at < 0) {
                return -1;
            }
        }
        return at;
    }

    private static List<String> runsOf(String bits, int bit) {
        List<String> runs = new ArrayList<>(Arrays.asList(bits.split(bit == 1 ? "0+" : "1+")));
        runs.removeIf(String::isEmpty);
        return runs;
    }

    public int runs(int map, int bit) {
        String bits = map(map);
        argument(bit == 0 || bit == 1);
        return runsOf(bits, bit).size();
    }

    public int longestRun(int map, int bit) {
        String bits = map(map);
        argument(bit == 0 || bit == 1);
        int longest = 0;
        for (String run : runsOf(bits, bit)) {
            longest = Math.max(longest, run.length());
        }
        return longest;
    }

    // ---- bytes

    public int bytes(int map) {
        return tree(map(map)).size();
    }

    public int byteAt(int map, int i) {
        List<Integer> bytes = tree(map(map));
        index(i >= 0 && i < bytes.size());
        return bytes.get(i);
    }

    public int parts(int map, int what) {
        String bits = map(map);
        argument(what >= 0 && what < 6);
        int[] parts = new int[6];
        for (Told t : told(bits)) {
            if (t.told) {
                parts[t.level > 0 ? 0 : 1]++;
            }
            if (t.code >= 0) {
                parts[2 + t.code]++;
            }
        }
        return parts[what];
    }

    public int block(int map, int level, int block, int what) {
        String bits = map(map);
        blockOf(level, block);
        argument(what >= 0 && what < 4);
        String own = bits.substring(block * size(level), (block + 1) * size(level));
        if (what == 1) {
            return ones(own);
        }
        for (Told t : told(bits)) {
            if (t.level == level && t.block == block) {
                return what == 0 ? t.code : !t.told ? -1 : what == 2 ? t.start : tree(own).size();
            }
        }
        return -1;
    }

    public int teller(int map, int position) {
        String bits = map(map);
        range(position, position);
        return tellerIn(bits, position, 0);
    }

    public int told(int map, int i) {
        String bits = map(map);
        index(i >= 0 && i < tree(bits).size());
        int found = 0;
        for (int p = 0; p < bits.length(); p += 8) {
            found += tellerIn(bits, p, 0) == i ? 8 : 0;
        }
        return found;
    }

    public int lowest(int map) {
        int lowest = 9;
        for (Told t : told(map(map))) {
            lowest = t.told ? Math.min(lowest, t.level) : lowest;
        }
        return lowest;
    }

    public int biggest(int map, int what) {
        String bits = map(map);
        argument(what == 0 || what == 1 || what == 3);
        int best = -1;
        int bestLevel = -1;
        for (Told t : told(bits)) {
            int position = t.block * size(t.level);
            if (t.code == what && (t.level > bestLevel || t.level == bestLevel && position < best)) {
                best = position;
                bestLevel = t.level;
            }
        }
        return best;
    }

    public int cheapest() {
        text();
        List<Integer> sizes = new ArrayList<>();
        for (String map : maps) {
            sizes.add(tree(map).size());
        }
        return sizes.isEmpty() ? -1 : sizes.indexOf(Collections.min(sizes));
    }

    public double meanBits(int map) {
        return (double) ones(map(map)) / (double) tree(map(map)).size();
    }

    public float share(int map) {
        return (float) tree(map(map)).size() / (float) (size(level) / 8);
    }

    // ---- two maps

    private static String merged(int kind, String a, String b) {
        StringBuilder bits = new StringBuilder();
        for (int p = 0; p < a.length(); p++) {
            boolean x = a.charAt(p) == '1';
            boolean y = b.charAt(p) == '1';
            boolean[] of = {x || y, x && y, x && !y, x != y};
            bits.append(of[kind] ? '1' : '0');
        }
        return bits.toString();
    }

    public int common(int map, int other) {
        return ones(merged(1, map(map), map(other)));
    }

    public int distance(int map, int other) {
        return ones(merged(3, map(map), map(other)));
    }

    public int differs(int map, int other) {
        return merged(3, map(map), map(other)).indexOf('1');
    }

    public boolean isWithin(int map, int other) {
        return merged(0, map(map), map(other)).equals(map(other));
    }

    public int alike(int map, int other, int level) {
        String unlike = merged(3, map(map), map(other));
        index(level >= 0 && level <= this.level);
        int found = 0;
        for (int p = 0; p < unlike.length(); p += size(level)) {
            found += unlike.substring(p, p + size(level)).contains("1") ? 0 : 1;
        }
        return found;
    }

    public int combined(int kind, int map, int other) {
        String a = map(map);
        String b = map(other);
        argument(kind >= 0 && kind < 4);
        return tree(merged(kind, a, b)).size();
    }

    public int nearest(int map) {
        map(map);
        int best = -1;
        for (int other = 0; other < maps.size(); other++) {
            if (other != map && (best < 0 || distance(map, other) < distance(map, best))) {
                best = other;
            }
        }
        return best;
    }

    // ---- what would be

    private static String edited(String bits, int from, int to, int how) {
        char[] signs = bits.toCharArray();
        for (int p = from; p <= to; p++) {
            signs[p] = how == 1 || how == 2 && signs[p] == '0' ? '1' : '0';
        }
        return new String(signs);
    }

    private static String shifted(String bits, int by) {
        char[] signs = "0".repeat(bits.length()).toCharArray();
        for (int p = 0; p < bits.length(); p++) {
            long goal = (long) p + by;
            if (goal >= 0 && goal < bits.length()) {
                signs[(int) goal] = bits.charAt(p);
            }
        }
        return new String(signs);
    }

    public int bytesIf(int map, int position) {
        String bits = map(map);
        range(position, position);
        return tree(edited(bits, position, position, 2)).size();
    }

    public int bestFlip(int map, int from, int to) {
        map(map);
        range(from, to);
        List<Integer> sizes = new ArrayList<>();
        for (int p = from; p <= to; p++) {
            sizes.add(bytesIf(map, p));
        }
        return from + sizes.indexOf(Collections.min(sizes));
    }

    public int bytesFilled(int map, int from, int to, int bit) {
        String bits = map(map);
        range(from, to);
        argument(bit == 0 || bit == 1);
        return tree(edited(bits, from, to, bit)).size();
    }

    public int bytesShifted(int map, int by) {
        return tree(shifted(map(map), by)).size();
    }

    public int mostLike(int map, int level, int block) {
        String bits = map(map);
        blockOf(level, block);
        int size = size(level);
        String own = bits.substring(block * size, (block + 1) * size);
        int best = -1;
        int least = Integer.MAX_VALUE;
        for (int other = 0; other < bits.length() / size; other++) {
            int unlike = ones(merged(3, own, bits.substring(other * size, (other + 1) * size)));
            if (other != block && unlike < least) {
                best = other;
                least = unlike;
            }
        }
        return best;
    }

    // ---- texts

    public int writeBytes(int map) {
        List<String> parts = new ArrayList<>();
        for (int value : tree(map(map))) {
            parts.add(String.format("%02x", value));
        }
        text = String.join(" ", parts);
        return text.length();
    }

    public int writeBits(int map, int from, int to) {
        String bits = map(map);
        range(from, to);
        argument(to - from + 1 <= 200);
        text = bits.substring(from, to + 1);
        return text.length();
    }

    public int writeTree(int map) {
        text = spelled(map(map));
        return text.length();
    }

    public int textByte(int i) {
        index(i >= 0 && i < text.length());
        return text.charAt(i);
    }

    // ---- changes

    private void change(int map, String bits) {
        past.addLast(new ArrayList<>(maps));
        if (past.size() > 8) {
            past.removeFirst();
        }
        maps.set(map, bits);
    }

    public int fill(int map, int from, int to, int bit) {
        String bits = map(map);
        range(from, to);
        argument(bit == 0 || bit == 1);
        change(map, edited(bits, from, to, bit));
        return ones(merged(3, bits, maps.get(map)));
    }

    public int flip(int map, int from, int to) {
        String bits = map(map);
        range(from, to);
        change(map, edited(bits, from, to, 2));
        return bytes(map) - tree(bits).size();
    }

    public int combine(int kind, int map, int other, int into) {
        String a = map(map);
        String b = map(other);
        map(into);
        argument(kind >= 0 && kind < 4);
        change(into, merged(kind, a, b));
        return ones(maps.get(into));
    }

    public int copyBlock(int map, int level, int from, int to) {
        String bits = map(map);
        blockOf(level, from);
        blockOf(level, to);
        int size = size(level);
        change(map, bits.substring(0, to * size) + bits.substring(from * size, (from + 1) * size)
            + bits.substring((to + 1) * size));
        return bytes(map);
    }

    public int shift(int map, int by) {
        String bits = map(map);
        change(map, shifted(bits, by));
        return ones(bits) - ones(maps.get(map));
    }

    public int mirror(int map) {
        change(map, new StringBuilder(map(map)).reverse().toString());
        return bytes(map);
    }

    public int read(int map, int n) {
        map(map);
        List<Integer> bytes = take(n);
        argument(wrongAt(bytes, level) < 0);
        change(map, bitsOf(bytes, level));
        return ones(maps.get(map));
    }

    public int undo() {
        if (past.isEmpty()) {
            throw new IllegalStateException();
        }
        maps = past.removeLast();
        return past.size();
    }

    public int undoable() {
        return past.size();
    }

    public int save(int slot) {
        text();
        index(slot == 0 || slot == 1);
        slots.set(slot, new ArrayList<>(maps));
        return count(3);
    }

    public int restore(int slot) {
        index(slot == 0 || slot == 1);
        if (slots.get(slot) == null) {
            throw new IllegalStateException();
        }
        maps = new ArrayList<>(slots.get(slot));
        past.clear();
        return count(3);
    }
}
