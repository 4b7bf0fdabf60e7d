/** Promises 39 to 42: texts. */
final class TextsTest {
    public static void main(String[] args) {
        QuarterMaps x = Checks.loaded("level 2;map a;fill a 0 2;fill a 8 15;fill a 32 34;fill a 40 47"
            + ";fill a 96 96;fill a 105 105;fill a 112 112;fill a 120 120;map b;fill b 0 127;map c;flip c 1 31");
        writeBytes(x);
        writeBits(x);
        writeTree(x);
        theTextStays(x);
        withoutText();
        Checks.finish();
    }

    private static void writeBytes(QuarterMaps x) {
        Checks.due("writeBytes", 20, () -> x.writeBytes(0));
        Checks.due("text", "8e 06 07 ea 01 02 01", () -> Checks.writtenText(x, 20));
        Checks.due("writeBytes", 2, () -> x.writeBytes(1));
        Checks.due("text", "55", () -> Checks.writtenText(x, 2));
        Checks.due("writeBytes", 8, () -> x.writeBytes(2));
        Checks.due("text", "02 56 fe", () -> Checks.writtenText(x, 8));
        Checks.due("writeBytes", Checks.INDEX, () -> x.writeBytes(3));
        Checks.due("writeBytes", Checks.INDEX, () -> x.writeBytes(-1));
        QuarterMaps digits = Checks.loaded("level 2;map a;tree a 170 170 1 35 69 103 170 137 171 205 239"
            + " 170 16 50 84 118 170 152 186 220 254");
        Checks.due("each digit", 62, () -> digits.writeBytes(0));
        Checks.due("text", "aa aa 01 23 45 67 aa 89 ab cd ef aa 10 32 54 76 aa 98 ba dc fe",
            () -> Checks.writtenText(digits, 62));
        Checks.due("each digit", 42, () -> digits.writeTree(0));
        Checks.due("text", "((01234567)(89abcdef)(10325476)(98badcfe))", () -> Checks.writtenText(digits, 42));
        QuarterMaps most = Checks.loaded("level 4;map a");
        int[] tree = Checks.fullTree();
        most.read(0, Checks.put(most, tree));
        Checks.due("the longest text", 1022, () -> most.writeBytes(0));
        Checks.due("its start", "aa aa aa aa 01", () -> Checks.writtenText(most, 1022).substring(0, 14));
        Checks.due("its end", String.format("%02x", tree[340]), () -> Checks.writtenText(most, 1022).substring(1020));
        Checks.due("the longest tree", 682, () -> most.writeTree(0));
        Checks.due("its end", String.format("%02x))))", tree[340]),
            () -> Checks.writtenText(most, 682).substring(676));
    }

    private static void writeBits(QuarterMaps x) {
        Checks.due("writeBits", 16, () -> x.writeBits(2, 0, 15));
        Checks.due("text", "0111111111111111", () -> Checks.writtenText(x, 16));
        Checks.due("writeBits", 1, () -> x.writeBits(0, 127, 127));
        Checks.due("text", "0", () -> Checks.writtenText(x, 1));
        Checks.due("writeBits", 4, () -> x.writeBits(0, 119, 122));
        Checks.due("text", "0100", () -> Checks.writtenText(x, 4));
        QuarterMaps big = Checks.loaded("level 4;map a;fill a 1847 1847;fill a 2046 2047");
        Checks.due("writeBits", 200, () -> big.writeBits(0, 1848, 2047));
        Checks.due("text", "0".repeat(198) + "11", () -> Checks.writtenText(big, 200));
        Checks.due("201 bits", Checks.ARGUMENT, () -> big.writeBits(0, 1847, 2047));
        Checks.due("all bits", Checks.ARGUMENT, () -> big.writeBits(0, 0, 2047));
        Checks.due("the text stays", "0".repeat(198) + "11", () -> Checks.writtenText(big, 200));
        Checks.due("index first", Checks.INDEX, () -> big.writeBits(0, 0, 2048));
        Checks.due("index first", Checks.INDEX, () -> big.writeBits(1, 0, 300));
        QuarterMaps small = Checks.loaded("level 1;map a");
        WouldBeTest.dueWrongRanges("writeBits", (map, from, to) -> small.writeBits(map, from, to));
    }

    private static void writeTree(QuarterMaps x) {
        Checks.due("writeTree", 20, () -> x.writeTree(0));
        Checks.due("text", "((07+--)=-(010201=))", () -> Checks.writtenText(x, 20));
        Checks.due("writeTree", 6, () -> x.writeTree(1));
        Checks.due("text", "(++++)", () -> Checks.writtenText(x, 6));
        Checks.due("writeTree", 12, () -> x.writeTree(2));
        Checks.due("text", "((fe+++)---)", () -> Checks.writtenText(x, 12));
        Checks.due("writeTree", Checks.INDEX, () -> x.writeTree(3));
        Checks.due("writeTree", Checks.INDEX, () -> x.writeTree(-1));
    }

    private static void theTextStays(QuarterMaps x) {
        x.writeBits(2, 0, 3);
        x.fill(2, 0, 127, 0);
        x.save(0);
        x.undo();
        x.restore(0);
        Checks.due("a wrong text", Checks.INDEX, () -> x.writeTree(9));
        x.load(Checks.put(x, "level 1"));
        Checks.due("text", "0111", () -> Checks.writtenText(x, 4));
        Checks.due("textByte", Checks.INDEX, () -> x.textByte(-1));
        Checks.due("textByte", Checks.INDEX, () -> x.textByte(Integer.MAX_VALUE));
        Checks.due("textByte", Checks.INDEX, () -> x.textByte(Integer.MIN_VALUE));
    }

    private static void withoutText() {
        QuarterMaps x = new QuarterMaps();
        Checks.due("writeBytes", Checks.STATE, () -> x.writeBytes(-1));
        Checks.due("writeBits", Checks.STATE, () -> x.writeBits(-1, 1, 0));
        Checks.due("writeTree", Checks.STATE, () -> x.writeTree(-1));
        Checks.due("textByte", Checks.INDEX, () -> x.textByte(0));
    }
}
