import java.util.ArrayList;
import java.util.List;
import java.util.Random;

/**
 * Section 3 by its first words: a byte is wrong if no tree goes on so. Trees that go on are looked for by
 * writing the trees of many maps, so nothing here knows which bytes are wrong.
 */
final class ReadingTest {
    private static final int TRIES = 400;

    private final Random random = new Random(3);
    private final int level;
    private final QuarterMaps x;

    private ReadingTest(int level) {
        this.level = level;
        x = Checks.loaded("level " + level);
    }

    public static void main(String[] args) {
        for (int level = 1; level <= 4; level++) {
            new ReadingTest(level).rightTrees();
            new ReadingTest(level).otherBytes();
        }
        Checks.finish();
    }

    private int size() {
        return 8 << 2 * level;
    }

    /** Bits with few bytes, as trees with many are seldom wrong in more than their leaves. */
    private String sparseBits() {
        StringBuilder bits = new StringBuilder();
        int length = 8 << 2 * random.nextInt(level + 1);
        String last = "0".repeat(length);
        while (bits.length() < size()) {
            int choice = random.nextInt(5);
            if (choice == 0) {
                last = "1".repeat(length);
            } else if (choice == 1) {
                last = "0".repeat(length);
            } else if (choice == 2) {
                int from = random.nextInt(length);
                int to = Math.min(length, from + 1 + random.nextInt(9));
                last = "0".repeat(from) + "1".repeat(to - from) + "0".repeat(length - to);
            }
            bits.append(last);
        }
        return bits.toString();
    }

    private int checked(List<Integer> bytes) {
        int[] all = new int[bytes.size()];
        for (int i = 0; i < all.length; i++) {
            all[i] = bytes.get(i);
        }
        return x.checks(Checks.put(x, all));
    }

    private void rightTrees() {
        for (int i = 0; i < TRIES; i++) {
            List<Integer> tree = Model.tree(sparseBits());
            Checks.due("tree " + tree, -1, () -> checked(tree));
            List<Integer> part = tree.subList(0, random.nextInt(tree.size()));
            Checks.due("a part of it " + part, part.size(), () -> checked(part));
            List<Integer> more = new ArrayList<>(tree);
            more.add(random.nextInt(256));
            Checks.due("a byte too many " + more, tree.size(), () -> checked(more));
        }
    }

    /** With another byte somewhere, it is wrong ahead of no byte with which a tree goes on. */
    private void otherBytes() {
        for (int i = 0; i < TRIES; i++) {
            List<Integer> bytes = new ArrayList<>(Model.tree(sparseBits()));
            int at = random.nextInt(bytes.size());
            bytes.set(at, random.nextBoolean() ? bytes.get(random.nextInt(bytes.size())) : random.nextInt(256));
            int wrong = checked(bytes);
            Checks.due("what is ahead is right " + bytes, true, () -> wrong < 0 || wrong >= at);
            if (wrong < 0) {
                Checks.due("it is the tree of its bits " + bytes, true, () -> isTree(bytes));
                continue;
            }
            List<Integer> right = bytes.subList(0, wrong);
            Checks.due("a tree goes on " + right, true, () -> goesOn(right));
            if (wrong < bytes.size()) {
                List<Integer> more = bytes.subList(0, wrong + 1);
                Checks.due("no tree goes on " + more, false, () -> goesOn(more));
            }
        }
    }

    private boolean isTree(List<Integer> bytes) {
        String bits = bitsOf(bytes, new int[1], level);
        return bits != null && Model.tree(bits).equals(bytes);
    }

    /** Whether some bytes behind these make a tree; also if these are one. */
    private boolean goesOn(List<Integer> start) {
        for (int i = 0; i < 200; i++) {
            List<Integer> bytes = new ArrayList<>(start);
            for (int more = 0; more < 341; more++) {
                int[] at = {0};
                String bits = bitsOf(bytes, at, level);
                if (bits != null) {
                    break;
                }
                // As a leaf or as a head, most of these make a whole block that is not plain.
                bytes.add(random.nextInt(3) == 0 ? new int[] {1, 4, 5, 16, 17, 20, 21, 64, 65, 68, 69, 80, 81, 84}
                    [random.nextInt(14)] : random.nextInt(8) == 0 ? 2 : 1 + random.nextInt(84));
            }
            if (isTree(bytes)) {
                return true;
            }
        }
        return false;
    }

    /** The bits, as far as codes and leaves tell some; null if bytes are missing. */
    private static String bitsOf(List<Integer> bytes, int[] at, int of) {
        if (at[0] >= bytes.size()) {
            return null;
        }
        int here = bytes.get(at[0]++);
        StringBuilder bits = new StringBuilder();
        if (of == 0) {
            for (int k = 0; k < 8; k++) {
                bits.append(here >> k & 1);
            }
            return bits.toString();
        }
        String last = "0".repeat(2 << 2 * of);
        for (int i = 0; i < 4; i++) {
            int code = here >> 2 * i & 3;
            if (code == 2) {
                last = bitsOf(bytes, at, of - 1);
                if (last == null) {
                    return null;
                }
            }
            bits.append(code > 1 ? last : ("" + code).repeat(2 << 2 * of));
        }
        return bits.toString();
    }
}
