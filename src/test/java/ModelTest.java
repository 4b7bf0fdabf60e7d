import java.lang.reflect.InvocationTargetException;
import java.lang.reflect.Method;
import java.util.Arrays;
import java.util.HashMap;
import java.util.List;
import java.util.Map;
import java.util.Random;

/** Runs of calls, the same in each run of this test, whose answers are those of the model. */
final class ModelTest {
    // What each argument is: m map, p position, f and t of a range, l level, b block of it, v bit, w what,
    // k kind, n length in the buffer, s slot, i index of a byte, y any number.
    private static final String[] CALLS = {
        "parseError", "errorPosition", "buffered", "find n", "checks n", "count w", "bit mp", "ones mft", "next mpv",
        "select mi", "runs mv", "longestRun mv", "bytes m", "byteAt mi", "parts mw", "block mlbw", "block mlbw",
        "teller mp", "told mi", "lowest m", "biggest mw", "cheapest", "meanBits m", "share m", "common mm",
        "distance mm", "differs mm", "isWithin mm", "alike mml", "combined kmm", "nearest m", "bytesIf mp",
        "bestFlip mft", "bytesFilled mftv", "bytesShifted my", "mostLike mlb", "writeBytes m", "writeBits mft",
        "writeTree m", "textByte i", "fill mftv", "flip mft", "combine kmmm", "copyBlock mlbb", "copyBlock mlbb",
        "shift my", "mirror m", "read mn", "undo", "undoable", "save s", "restore s"};

    private static final Map<String, Method> REAL = methods(QuarterMaps.class);
    private static final Map<String, Method> OWN = methods(Model.class);

    private final Random random;
    private final QuarterMaps real = new QuarterMaps();
    private final Model model = new Model();
    private final int run;
    private int level;
    private int maps;
    private int calls;

    private ModelTest(int run) {
        this.run = run;
        random = new Random(run);
    }

    public static void main(String[] args) {
        int runs = args.length > 0 ? Integer.parseInt(args[0]) : 2000;
        for (int run = 0; run < runs; run++) {
            new ModelTest(run).calls();
        }
        Checks.finish();
    }

    private static Map<String, Method> methods(Class<?> type) {
        Map<String, Method> methods = new HashMap<>();
        for (Method method : type.getDeclaredMethods()) {
            if (java.lang.reflect.Modifier.isPublic(method.getModifiers())) {
                methods.put(method.getName(), method);
            }
        }
        return methods;
    }

    private void calls() {
        if (random.nextInt(10) > 0) {
            load();
        }
        int most = 100 + random.nextInt(350);
        while (calls < most) {
            int choice = random.nextInt(100);
            if (choice < 3) {
                load();
            } else if (choice < 9) {
                tree();
            } else {
                String[] call = CALLS[random.nextInt(CALLS.length)].split(" ");
                due(call[0], call.length > 1 ? arguments(call[1]) : new Object[0]);
            }
        }
        for (int map = 0; map < maps; map++) {
            due("bytes", map);
            due("writeTree", map);
            for (int i = 0; i < 40; i++) {
                due("textByte", i);
            }
        }
    }

    private void due(String name, Object... arguments) {
        calls++;
        String want = Checks.answerOf(() -> called(OWN.get(name), model, arguments));
        Checks.due("run " + run + ": " + name + Arrays.toString(arguments), want,
            () -> called(REAL.get(name), real, arguments));
    }

    private static Object called(Method method, Object object, Object... arguments) {
        try {
            return method.invoke(object, arguments);
        } catch (InvocationTargetException e) {
            throw (RuntimeException) e.getCause();
        } catch (IllegalAccessException e) {
            throw new AssertionError(e);
        }
    }

    // ---- arguments

    private Object[] arguments(String roles) {
        Object[] arguments = new Object[roles.length()];
        int levelHere = 0;
        int from = 0;
        for (int i = 0; i < roles.length(); i++) {
            char role = roles.charAt(i);
            int value = likely(role, levelHere, from);
            if (random.nextInt(30) == 0) {
                value = odd(value);
            }
            levelHere = role == 'l' ? Math.max(0, Math.min(4, value)) : levelHere;
            from = role == 'f' ? value : from;
            arguments[i] = value;
        }
        return arguments;
    }

    private int below(int n) {
        return n > 0 ? random.nextInt(n) : 0;
    }

    private int likely(char role, int levelHere, int from) {
        int size = 8 << 2 * level;
        switch (role) {
            case 'm':
                return below(maps);
            case 'p':
                return below(size);
            case 'f':
                return random.nextBoolean() ? below(size) : 8 * below(size / 8);
            case 't':
                int length = random.nextInt(3) == 0 ? below(size) : random.nextInt(2) == 0 ? 8 << below(4) : below(40);
                return random.nextInt(12) == 0 ? size - 1 : Math.min(size - 1, from + length);
            case 'l':
                return below(level + 1);
            case 'b':
                return below(1 << 2 * Math.max(0, level - levelHere));
            case 'v':
            case 's':
                return below(2);
            case 'w':
                return below(6);
            case 'k':
                return below(4);
            case 'n':
                return real.buffered() == 0 ? 0 : below(real.buffered() + 1);
            case 'i':
                return random.nextBoolean() ? below(8) : below(350);
            default:
                return random.nextInt(3) == 0 ? random.nextInt() >> below(32) : below(80) - 40;
        }
    }

    private int odd(int value) {
        int[] odd = {-1, value + 1, value - 1, -value, Integer.MAX_VALUE, Integer.MIN_VALUE, 6, 8 << 2 * level, 5};
        return odd[random.nextInt(odd.length)];
    }

    // ---- trees and texts

    private void put(List<Integer> bytes) {
        int behind = new int[] {' ', 'a', '1', ';', 0}[below(5)];
        for (int first = 0; first < bytes.size(); first += 20) {
            Object[] words = {0, 0, 0, 0, 0};
            for (int i = 0; i < 20; i++) {
                int value = first + i < bytes.size() ? bytes.get(first + i) : behind;
                words[i / 4] = (Integer) words[i / 4] << 8 | value & 255;
            }
            due("append", words);
        }
    }

    /** Reads or checks a tree, often a wrong one. */
    private void tree() {
        due("find", 0);
        List<Integer> bytes = new java.util.ArrayList<>(Model.tree(bits(level)));
        int change = random.nextInt(3);
        for (int i = 0; i < change; i++) {
            spoil(bytes);
        }
        put(bytes);
        int n = bytes.size() + (random.nextInt(20) == 0 ? random.nextInt(5) - 2 : 0);
        if (random.nextBoolean()) {
            due("checks", n);
        } else {
            due("read", random.nextInt(20) == 0 ? maps : below(maps), n);
        }
        due("buffered");
    }

    private void spoil(List<Integer> bytes) {
        int at = below(bytes.size());
        int value = random.nextInt(4) == 0 ? random.nextInt(256) : new int[] {0, 255, 2, 10, 14, 85, 1, 3}[below(8)];
        switch (random.nextInt(4)) {
            case 0:
                bytes.add(at, value);
                break;
            case 1:
                if (!bytes.isEmpty()) {
                    bytes.remove(at);
                }
                break;
            case 2:
                if (at > 0) {
                    bytes.set(at, bytes.get(at - 1));
                }
                break;
            default:
                if (!bytes.isEmpty()) {
                    bytes.set(at, value);
                }
        }
    }

    private String bits(int of) {
        if (of == 0) {
            StringBuilder bits = new StringBuilder();
            int value = random.nextInt(3) == 0 ? random.nextInt(256) : new int[] {0, 255, 1, 128, 15}[below(5)];
            for (int k = 0; k < 8; k++) {
                bits.append(value >> k & 1);
            }
            return bits.toString();
        }
        String[] quarters = new String[4];
        int empty = random.nextInt(4);
        for (int i = 0; i < 4; i++) {
            int choice = random.nextInt(6);
            if (choice < empty) {
                quarters[i] = ("" + choice % 2).repeat(2 << 2 * of);
            } else if (choice < 4 && i > 0) {
                quarters[i] = quarters[random.nextInt(i)];
            } else {
                quarters[i] = bits(of - 1);
            }
        }
        return String.join("", quarters);
    }

    private void load() {
        due("find", 0);
        String text = text();
        for (int i = random.nextInt(5) < 3 ? 0 : 1 + random.nextInt(2); i > 0; i--) {
            text = spoiled(text);
        }
        text = text.substring(0, Math.min(700, text.length()));
        List<Integer> bytes = new java.util.ArrayList<>();
        for (char sign : text.toCharArray()) {
            bytes.add((int) sign);
        }
        put(bytes);
        due("load", text.length());
        due("parseError");
        due("errorPosition");
        due("undoable");
        try {
            level = model.count(1);
            maps = model.count(0);
        } catch (IllegalStateException e) {
            level = 0;
        }
    }

    private String text() {
        int of = 1 + random.nextInt(4);
        StringBuilder text = new StringBuilder("level ").append(of);
        String[] names = {"a", "b", "map", "abcdef", "or", "tree"};
        int told = 0;
        for (int lines = random.nextInt(14); lines > 0; lines--) {
            text.append(random.nextInt(6) == 0 ? " ; " : ";");
            if (told == 0 || random.nextInt(3) == 0 && told < (random.nextInt(30) == 0 ? 7 : 6)) {
                text.append("map ").append(names[Math.min(5, told)]);
                told++;
                continue;
            }
            String name = names[Math.min(5, random.nextInt(told))];
            int kind = random.nextInt(5);
            if (kind == 0) {
                text.append("or ").append(name).append(' ').append(names[Math.min(5, random.nextInt(told))]);
            } else if (kind == 1) {
                text.append("tree ").append(name);
                for (int value : Model.tree(bits(of))) {
                    text.append(' ').append(value);
                }
            } else {
                int from = random.nextInt(8 << 2 * of);
                int to = from + random.nextInt((8 << 2 * of) - from);
                text.append(new String[] {"fill ", "clear ", "flip "}[kind - 2]).append(name).append(' ').append(from)
                    .append(random.nextInt(9) == 0 ? "  " : " ").append(to);
            }
        }
        return text.toString();
    }

    private String spoiled(String text) {
        int at = random.nextInt(text.length() + 1);
        String rest = text.substring(Math.min(text.length(), at + random.nextInt(3)));
        String[] signs = {"", "", " ", ";", "0", "9", "256", "255", " 2 ", "a", "map", " b ", "\u00ff", "\t", "A", "-",
            " 00007", "99999", "abcdefgh", ";map a", ";map c", " tree ", " 0 ", " 10 1 1"};
        return text.substring(0, at) + signs[random.nextInt(signs.length)] + (random.nextInt(8) == 0 ? "" : rest);
    }
}
