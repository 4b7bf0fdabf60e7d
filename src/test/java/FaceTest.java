import java.io.IOException;
import java.lang.reflect.Constructor;
import java.lang.reflect.Field;
import java.lang.reflect.Method;
import java.lang.reflect.Modifier;
import java.nio.file.Files;
import java.nio.file.Path;
import java.util.Arrays;
import java.util.List;
import java.util.regex.Matcher;
import java.util.regex.Pattern;

/** The public face, and those rules of LANGUAGE.md that can be seen in the text of the program. */
final class FaceTest {
    // The result, the name, how many ints it takes, and what it throws: S state, X index, A argument.
    private static final List<String> FACE = List.of(
        "int append 5",
        "int load 1 XA",
        "int parseError 0",
        "int errorPosition 0",
        "int buffered 0",
        "int find 1 SX",
        "int checks 1 SX",
        "int count 1 SA",
        "int bit 2 SX",
        "int ones 3 SX",
        "int next 3 SXA",
        "int select 2 SX",
        "int runs 2 SXA",
        "int longestRun 2 SXA",
        "int bytes 1 SX",
        "int byteAt 2 SX",
        "int parts 2 SXA",
        "int block 4 SXA",
        "int teller 2 SX",
        "int told 2 SX",
        "int lowest 1 SX",
        "int biggest 2 SXA",
        "int cheapest 0 S",
        "double meanBits 1 SX",
        "float share 1 SX",
        "int common 2 SX",
        "int distance 2 SX",
        "int differs 2 SX",
        "boolean isWithin 2 SX",
        "int alike 3 SX",
        "int combined 3 SXA",
        "int nearest 1 SX",
        "int bytesIf 2 SX",
        "int bestFlip 3 SX",
        "int bytesFilled 4 SXA",
        "int bytesShifted 2 SX",
        "int mostLike 3 SX",
        "int writeBytes 1 SX",
        "int writeBits 3 SXA",
        "int writeTree 1 SX",
        "int textByte 1 X",
        "int fill 4 SXA",
        "int flip 3 SX",
        "int combine 4 SXA",
        "int copyBlock 4 SX",
        "int shift 2 SX",
        "int mirror 1 SX",
        "int read 2 SXA",
        "int undo 0 S",
        "int undoable 0",
        "int save 1 SX",
        "int restore 1 XS");

    public static void main(String[] args) throws IOException {
        face();
        nested();
        String program = Files.readString(Path.of("src/main/java/QuarterMaps.java"));
        words(program);
        methodsAreShort(program);
        Checks.finish();
    }

    private static void face() {
        Class<?> type = QuarterMaps.class;
        Checks.due("the class is final and public", Modifier.PUBLIC | Modifier.FINAL, () -> type.getModifiers());
        Checks.due("one constructor", 1, () -> type.getDeclaredConstructors().length);
        for (Constructor<?> made : type.getDeclaredConstructors()) {
            Checks.due("it is public", "1 0", () -> made.getModifiers() + " " + made.getParameterCount());
        }
        for (Field field : type.getDeclaredFields()) {
            boolean constant = field.getName().equals("NONE");
            Checks.due("field " + field.getName(), constant, () -> !Modifier.isPrivate(field.getModifiers()));
        }
        int seen = 0;
        for (Method method : type.getDeclaredMethods()) {
            if (Modifier.isPrivate(method.getModifiers())) {
                Checks.due("private " + method.getName(), false, () -> isOfFace(method.getName()));
                continue;
            }
            seen++;
            Checks.due("method " + told(method), true, () -> FACE.contains(told(method)));
            Checks.due("it is public " + method.getName(), Modifier.PUBLIC, () -> method.getModifiers());
        }
        int found = seen;
        Checks.due("all methods", FACE.size(), () -> found);
    }

    private static String told(Method method) {
        StringBuilder out = new StringBuilder();
        out.append(method.getReturnType()).append(' ').append(method.getName()).append(' ');
        out.append(Arrays.stream(method.getParameterTypes()).filter(t -> t == int.class).count());
        char sign = ' ';
        for (Class<?> thrown : method.getExceptionTypes()) {
            out.append(sign == ' ' ? " " : "").append(thrown == IllegalStateException.class ? 'S'
                : thrown == IndexOutOfBoundsException.class ? 'X'
                : thrown == IllegalArgumentException.class ? 'A' : '?');
            sign = 'x';
        }
        return out.toString();
    }

    private static boolean isOfFace(String name) {
        for (String line : FACE) {
            if (line.split(" ")[1].equals(name)) {
                return true;
            }
        }
        return false;
    }

    private static void nested() {
        Class<?>[] inside = QuarterMaps.class.getDeclaredClasses();
        Checks.due("at most twelve classes", true, () -> inside.length < 12);
        for (Class<?> type : inside) {
            Checks.due(type + " is private and static", true,
                () -> Modifier.isPrivate(type.getModifiers()) && Modifier.isStatic(type.getModifiers()));
            for (Method method : type.getDeclaredMethods()) {
                Checks.due("method of " + type + " " + method.getName(), false, () -> isOfFace(method.getName()));
                Checks.due("seven parameters", true, () -> method.getParameterCount() <= 7);
            }
            Checks.due("fields of " + type, true, () -> Arrays.stream(type.getDeclaredFields())
                .filter(f -> !Modifier.isStatic(f.getModifiers())).count() <= 20);
        }
    }

    private static void words(String program) {
        String code = program.replaceAll("(?s)/\\*.*?\\*/|//[^\n]*", "").replaceAll("\"[^\"]*\"|'.'", "0");
        String[] banned = {"->", "::", "\\bimport\\b", "\\bpackage\\b", "\\btry\\b", "\\bcatch\\b", "\\bfinally\\b",
            "\\bsynchronized\\b", "\\bassert\\b", "\\bString\\.format\\b", "\\bjava\\.", "Exact\\(", "\\bvar\\b",
            "\\bprotected\\b", "\\bequals\\b", "\\bhashCode\\b", "\\btoString\\b", "\\bMath\\.random\\b",
            "\\bnanoTime\\b", "\\bThread\\b"};
        for (String word : banned) {
            Checks.due("in the program: " + word, false, () -> Pattern.compile(word).matcher(code).find());
        }
        Matcher library = Pattern.compile("\\b(System|Math|Integer|Long|Arrays)\\.(\\w+)").matcher(code);
        while (library.find()) {
            String used = library.group();
            Checks.due(used, true, () -> List.of("System.arraycopy", "Math.max", "Math.min", "Integer.bitCount").contains(used));
        }
        Matcher thrown = Pattern.compile("throw\\s+(?!new (IllegalStateException|IndexOutOfBoundsException"
            + "|IllegalArgumentException)\\()").matcher(code);
        Checks.due("throws only what the document names", false, () -> thrown.find());
    }

    private static void methodsAreShort(String program) {
        String[] lines = program.split("\n");
        int start = 0;
        for (int i = 0; i < lines.length; i++) {
            if (lines[i].matches("( {4}| {8})\\w.*[({]") || lines[i].matches("( {4}| {8})\\w.*\\(.*")) {
                start = i;
            } else if (lines[i].matches(" {4}}| {8}}")) {
                int length = i - start;
                Checks.due("lines of the method at line " + start, true, () -> length <= 60);
            }
        }
    }
}
