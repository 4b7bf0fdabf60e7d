import java.lang.reflect.InvocationTargetException;
import java.lang.reflect.Method;
import java.util.ArrayList;
import java.util.Arrays;
import java.util.List;

/**
 * Section 6: each wrong argument of each call, alone and together with every other one, throws what the
 * document lists first, and changes nothing; without a text all but a few calls throw IllegalStateException.
 */
final class RefusedTest {
    // What each argument is: m map, p position, f and t of a range, l level, b block of it, v bit, 0 to 9 a
    // number up to this one, c a code of a block that is left out, n length in the buffer, s slot, i index of
    // a byte, j index of the text, q not below 0, y any number. A star: no text is needed.
    private static final String[] CALLS = {"load* n", "find n", "checks n", "count 3", "bit mp", "ones mft",
        "next mpv", "select mq", "runs mv", "longestRun mv", "bytes m", "byteAt mi", "parts m5", "block mlb3",
        "teller mp", "told mi", "lowest m", "biggest mc", "cheapest", "meanBits m", "share m", "common mm",
        "distance mm", "differs mm", "isWithin mm", "alike mml", "combined 3mm", "nearest m", "bytesIf mp",
        "bestFlip mft", "bytesFilled mftv", "bytesShifted my", "mostLike mlb", "writeBytes m", "writeBits mft",
        "writeTree m", "textByte* j", "fill mftv", "flip mft", "combine 3mmm", "copyBlock mlbb", "shift my",
        "mirror m", "read mn", "save s", "restore* s"};

    private static final int LEAST = Integer.MIN_VALUE;
    private static final int MOST = Integer.MAX_VALUE;

    public static void main(String[] args) {
        String untouched = allOf(used());
        for (String call : CALLS) {
            String[] parts = call.split(" ");
            String name = parts[0].replace("*", "");
            String roles = parts.length > 1 ? parts[1] : "";
            wrongArguments(name, roles, untouched);
            if (!parts[0].endsWith("*")) {
                withoutText(name, roles);
            }
        }
        undoOfNothing();
        nothingSaved();
        wrongBytes();
        wrongTexts();
        Checks.finish();
    }

    // ---- objects and all that can be seen of them

    /** Two maps of the level 1; two changes, one undone; one slot; a text; an error; 40 bytes. */
    private static QuarterMaps used() {
        QuarterMaps x = Checks.loaded("level 1;map a;fill a 3 10;map bc;fill bc 16 31");
        x.fill(1, 20, 20, 0);
        x.save(0);
        x.mirror(0);
        x.flip(0, 3, 29);
        x.undo();
        x.writeTree(0);
        int n = Checks.put(x, "level 1;map");
        Checks.due("a wrong text", Checks.ARGUMENT, () -> x.load(n));
        Checks.put(x, "level 2;map q;map r;fill q 1 2");
        return x;
    }

    private static String seenOf(QuarterMaps x) {
        StringBuilder seen = new StringBuilder();
        for (int map = 0; map < x.count(0); map++) {
            seen.append(Checks.bitsOf(x, map, 0, 31)).append(' ');
        }
        seen.append("level ").append(x.count(1)).append(" undoable ").append(x.undoable()).append(" text ");
        for (int i = 0; i < 9; i++) {
            int at = i;
            seen.append(Checks.answerOf(() -> x.textByte(at))).append(' ');
        }
        return seen.toString();
    }

    /** Ends with other maps, so it can be asked once. */
    private static String allOf(QuarterMaps x) {
        StringBuilder all = new StringBuilder();
        all.append("error ").append(x.parseError()).append(" at ").append(x.errorPosition());
        all.append(" buffer ").append(x.buffered()).append('\n').append(seenOf(x)).append('\n');
        while (x.undoable() > 0) {
            x.undo();
            all.append(seenOf(x)).append('\n');
        }
        all.append(x.restore(0)).append(' ').append(seenOf(x)).append('\n');
        all.append(Checks.answerOf(() -> x.restore(1))).append('\n');
        all.append("the buffer as a text: ").append(Checks.answerOf(() -> x.load(30))).append(' ').append(x.count(1));
        return all.append(' ').append(x.count(3)).toString();
    }

    private static Object called(QuarterMaps x, String name, int[] values) {
        Object[] boxed = Arrays.stream(values).boxed().toArray();
        for (Method method : QuarterMaps.class.getDeclaredMethods()) {
            if (method.getName().equals(name) && method.getParameterCount() == boxed.length) {
                try {
                    return method.invoke(x, boxed);
                } catch (InvocationTargetException e) {
                    throw (RuntimeException) e.getCause();
                } catch (IllegalAccessException e) {
                    throw new AssertionError(e);
                }
            }
        }
        throw new AssertionError("no call " + name);
    }

    // ---- wrong arguments

    private static int right(char role) {
        return role == 't' ? 31 : role == 'b' || role == 'n' || role == 'y' ? 0 : role == 'c' ? 3 : 1;
    }

    private static int[] wrong(char role) {
        switch (role) {
            case 'm':
            case 's':
                return new int[] {-1, 2, LEAST, MOST};
            case 'l':
                return new int[] {-1, 2, LEAST, MOST, 31};
            case 'p':
                return new int[] {-1, 32, LEAST, MOST};
            case 'f':
                return new int[] {-1, 32, LEAST, MOST};
            case 't':
                // Less than the first position, 1, or beyond the end.
                return new int[] {0, -1, 32, LEAST, MOST};
            case 'b':
                // Of the level 1, of which there is one block.
                return new int[] {1, -1, LEAST, MOST};
            case 'n':
                return new int[] {-1, 41, LEAST, MOST};
            case 'i':
                // Both maps have three bytes at most.
                return new int[] {3, -1, LEAST, MOST};
            case 'j':
                return new int[] {8, -1, LEAST, MOST};
            case 'q':
                return new int[] {-1, LEAST};
            case 'v':
                return new int[] {2, -1, LEAST, MOST};
            case 'c':
                return new int[] {2, -1, 4, LEAST, MOST};
            case 'y':
                return new int[0];
            default:
                return new int[] {role - '0' + 1, -1, LEAST, MOST};
        }
    }

    private static boolean isArgument(char role) {
        return role == 'v' || role == 'c' || role >= '0' && role <= '9';
    }

    private static void wrongArguments(String name, String roles, String untouched) {
        for (int which = 1; which < 1 << roles.length(); which++) {
            for (int choice = 0; choice < 5; choice++) {
                int[] values = new int[roles.length()];
                boolean index = false;
                boolean argument = false;
                for (int i = 0; i < values.length; i++) {
                    char role = roles.charAt(i);
                    int[] wrong = wrong(role);
                    boolean spoiled = (which >> i & 1) == 1 && wrong.length > 0;
                    values[i] = spoiled ? wrong[(choice + i) % wrong.length] : right(role);
                    index |= spoiled && !isArgument(role);
                    argument |= spoiled && isArgument(role);
                }
                if (index || argument) {
                    dueRefused(name, values, index ? Checks.INDEX : Checks.ARGUMENT, untouched);
                }
            }
        }
    }

    private static void dueRefused(String name, int[] values, String want, String untouched) {
        QuarterMaps x = used();
        String call = name + Arrays.toString(values);
        Checks.due(call, want, () -> called(x, name, values));
        Checks.due("what is behind the refused " + call, untouched, () -> allOf(x));
    }

    // ---- no text, nothing to undo, nothing saved

    private static void withoutText(String name, String roles) {
        List<int[]> all = new ArrayList<>();
        all.add(new int[roles.length()]);
        for (int choice = 0; choice < 4; choice++) {
            int[] values = new int[roles.length()];
            for (int i = 0; i < values.length; i++) {
                int[] wrong = wrong(roles.charAt(i));
                values[i] = wrong.length > 0 ? wrong[choice % wrong.length] : choice;
            }
            all.add(values);
        }
        for (int[] values : all) {
            QuarterMaps fresh = new QuarterMaps();
            Checks.put(fresh, "level 3;map abc;map d;x");
            Checks.due(name + Arrays.toString(values) + " without text", Checks.STATE,
                () -> called(fresh, name, values));
            Checks.due("buffer behind " + name, 40, () -> fresh.buffered());
            Checks.due("error behind " + name, "0 -1", () -> fresh.parseError() + " " + fresh.errorPosition());
            Checks.due("the buffer's bytes behind " + name, 2, () -> fresh.load(21));
            Checks.due("level behind " + name, 3, () -> fresh.count(1));
        }
        QuarterMaps wrong = new QuarterMaps();
        int n = Checks.put(wrong, "level 1;map a;map a");
        Checks.due("a wrong text", Checks.ARGUMENT, () -> wrong.load(n));
        Checks.due(name + " behind a wrong text alone", Checks.STATE,
            () -> called(wrong, name, new int[roles.length()]));
        QuarterMaps empty = Checks.loaded("level 1");
        if (roles.startsWith("m")) {
            Checks.due(name + " of a text without maps", Checks.INDEX,
                () -> called(empty, name, new int[roles.length()]));
        }
    }

    private static void undoOfNothing() {
        QuarterMaps x = used();
        x.undo();
        x.undo();
        String before = seenOf(x);
        Checks.due("undo of nothing", Checks.STATE, () -> x.undo());
        Checks.due("what is behind it", before, () -> seenOf(x));
        Checks.due("the buffer behind it", 40, () -> x.buffered());
    }

    private static void nothingSaved() {
        QuarterMaps x = used();
        String untouched = allOf(used());
        Checks.due("restore of nothing", Checks.STATE, () -> x.restore(1));
        Checks.due("what is behind it", untouched, () -> allOf(x));
    }

    // ---- calls that empty the buffer though they are refused

    private static String withoutBuffer() {
        QuarterMaps x = used();
        x.find(0);
        return allOf(x);
    }

    private static void wrongBytes() {
        String due = withoutBuffer();
        for (int n : new int[] {0, 1, 39, 40}) {
            QuarterMaps x = used();
            Checks.due("read of " + n + " wrong bytes", Checks.ARGUMENT, () -> x.read(1, n));
            Checks.due("what is behind it", due, () -> allOf(x));
            QuarterMaps checked = used();
            Checks.due("checks of " + n + " wrong bytes", 0, () -> checked.checks(n));
            Checks.due("what is behind it", due, () -> allOf(checked));
        }
        QuarterMaps late = used();
        late.find(0);
        // Bits of the map come from the bytes until the last one is wrong.
        Checks.due("read of a tree with a wrong end", Checks.ARGUMENT, () -> late.read(0, Checks.put(late, 169, 9, 9)));
        Checks.due("what is behind it", due, () -> allOf(late));
    }

    private static void wrongTexts() {
        String due = withoutBuffer().replace("error 1 at 11", "");
        for (int n = 0; n < 40; n++) {
            QuarterMaps x = used();
            int length = n;
            String answer = Checks.answerOf(() -> x.load(length));
            if (!answer.equals(Checks.ARGUMENT)) {
                continue;
            }
            // Each part of the text in the buffer that ends too early is wrong at its end, or in its last token.
            String all = allOf(x);
            String error = all.substring(0, all.indexOf(" buffer"));
            Checks.due("error of the first " + n, true, () -> error.startsWith("error 1 at "));
            Checks.due("what is behind a load of " + n, due, () -> all.replace(error, ""));
        }
    }
}
