/**
 * Maps of bits that are kept as trees of bytes. The document (DOC.md) tells every call; the
 * sections that comments name here are the document's.
 */
public final class QuarterMaps {
    public static final int NONE = -1;

    private static final int MAX_LEVEL = 4;
    private static final int MAX_MAPS = 6;
    private static final int MAX_INPUT = 700;
    private static final int MAX_WRITTEN_BITS = 200;
    private static final int MAX_UNDO = 8;
    private static final int SLOTS = 2;

    // Bits are kept as the bytes of the level 0 ("cells"), so that most edits are made by masks.
    private static final int CELLS = 256;
    private static final int NODES = 341;

    // A map has at most NODES bytes, each written as two digits and a blank.
    private static final int MAX_TEXT = 3 * NODES;

    // Everything that holds the bits of a map is a row of the same store, known by its number.
    private static final int STAGED_ROWS = MAX_MAPS;
    private static final int PAST_ROWS = STAGED_ROWS + MAX_MAPS;
    private static final int SAVED_ROWS = PAST_ROWS + MAX_UNDO;
    private static final int SCRATCH_ROW = SAVED_ROWS + SLOTS * MAX_MAPS;
    private static final int ROWS = SCRATCH_ROW + 1;

    // The codes of quarters in a head.
    private static final int EMPTY = 0;
    private static final int FULL = 1;
    private static final int TREE = 2;
    private static final int SAME = 3;

    private static final int OR = 0;
    private static final int AND = 1;
    private static final int BUT = 2;
    private static final int UNLIKE = 3;

    private final Bytes input;
    private final Bits bits;
    private final Tree tree;
    private final Reader reader;
    private final Parser parser;
    private final History history;
    private final Bytes text;
    private final Row names;
    private final Row saved;
    private boolean loaded;
    private int level;
    private int maps;
    private int errorCode;
    private int errorAt;

    public QuarterMaps() {
        Bytes buffer = new Bytes(MAX_INPUT);
        Bits rows = new Bits();
        Reader treeReader = new Reader(rows);
        input = buffer;
        bits = rows;
        reader = treeReader;
        tree = new Tree(rows);
        parser = new Parser(buffer, rows, treeReader);
        history = new History(rows);
        text = new Bytes(MAX_TEXT);
        names = new Row(MAX_MAPS);
        saved = new Row(SLOTS);
        errorAt = NONE;
    }

    // ---- input

    public int append(int a, int b, int c, int d, int e) {
        if (!input.hasRoom(20)) {
            return NONE;
        }
        input.addWord(a);
        input.addWord(b);
        input.addWord(c);
        input.addWord(d);
        input.addWord(e);
        return input.length();
    }

    public int load(int n) throws IndexOutOfBoundsException, IllegalArgumentException {
        requireBuffered(n);
        boolean right = parser.parse(n);
        input.clear();
        errorCode = parser.errorCode();
        errorAt = parser.errorAt();
        if (!right) {
            throw new IllegalArgumentException("the text has an error");
        }
        adoptParsed();
        return maps;
    }

    private void adoptParsed() {
        loaded = true;
        level = parser.parsedLevel();
        maps = parser.parsedMaps();
        for (int map = 0; map < MAX_MAPS; map++) {
            names.set(map, parser.parsedName(map));
            bits.copyRow(STAGED_ROWS + map, map);
        }
        history.forget();
        for (int slot = 0; slot < SLOTS; slot++) {
            saved.set(slot, 0);
        }
    }

    public int parseError() {
        return errorCode;
    }

    public int errorPosition() {
        return errorAt;
    }

    public int buffered() {
        return input.length();
    }

    public int find(int n) throws IllegalStateException, IndexOutOfBoundsException {
        requireText();
        requireBuffered(n);
        int name = parser.nameIn(n);
        input.clear();
        for (int map = 0; map < maps; map++) {
            if (name != NONE && names.get(map) == name) {
                return map;
            }
        }
        return NONE;
    }

    public int checks(int n) throws IllegalStateException, IndexOutOfBoundsException {
        requireText();
        requireBuffered(n);
        int wrong = readToScratch(n);
        input.clear();
        return wrong;
    }

    private int readToScratch(int n) {
        reader.begin(SCRATCH_ROW, level);
        for (int i = 0; i < n; i++) {
            if (!reader.take(input.get(i))) {
                return i;
            }
        }
        return reader.isWhole() ? NONE : n;
    }

    // ---- bits

    public int count(int what) throws IllegalStateException, IllegalArgumentException {
        requireText();
        switch (what) {
            case 0:
                return maps;
            case 1:
                return level;
            case 2:
                return 8 * cellsIn(level);
            case 3:
                return sizeOfAll();
            default:
                throw new IllegalArgumentException("no such count");
        }
    }

    public int bit(int map, int position) throws IllegalStateException, IndexOutOfBoundsException {
        requireText();
        requireMap(map);
        requirePosition(position);
        return bits.bitAt(map, position);
    }

    public int ones(int map, int from, int to) throws IllegalStateException, IndexOutOfBoundsException {
        requireText();
        requireMap(map);
        requireRange(from, to);
        return bits.onesIn(map, from, to);
    }

    public int next(int map, int position, int bit)
            throws IllegalStateException, IndexOutOfBoundsException, IllegalArgumentException {
        requireText();
        requireMap(map);
        requirePosition(position);
        requireBit(bit);
        for (int p = position; p < 8 * cellsIn(level); p++) {
            if (bits.bitAt(map, p) == bit) {
                return p;
            }
        }
        return NONE;
    }

    public int select(int map, int k) throws IllegalStateException, IndexOutOfBoundsException {
        requireText();
        requireMap(map);
        if (k < 0) {
            throw new IndexOutOfBoundsException("k is negative");
        }
        int left = k;
        for (int p = 0; p < 8 * cellsIn(level); p++) {
            if (bits.bitAt(map, p) == 1) {
                if (left == 0) {
                    return p;
                }
                left--;
            }
        }
        return NONE;
    }

    public int runs(int map, int bit)
            throws IllegalStateException, IndexOutOfBoundsException, IllegalArgumentException {
        requireText();
        requireMap(map);
        requireBit(bit);
        int found = 0;
        int previous = 1 - bit;
        for (int p = 0; p < 8 * cellsIn(level); p++) {
            int here = bits.bitAt(map, p);
            if (here == bit && previous != bit) {
                found++;
            }
            previous = here;
        }
        return found;
    }

    public int longestRun(int map, int bit)
            throws IllegalStateException, IndexOutOfBoundsException, IllegalArgumentException {
        requireText();
        requireMap(map);
        requireBit(bit);
        int longest = 0;
        int length = 0;
        for (int p = 0; p < 8 * cellsIn(level); p++) {
            length = bits.bitAt(map, p) == bit ? length + 1 : 0;
            longest = Math.max(longest, length);
        }
        return longest;
    }

    // ---- bytes

    public int bytes(int map) throws IllegalStateException, IndexOutOfBoundsException {
        requireText();
        requireMap(map);
        return sizeOfRow(map);
    }

    public int byteAt(int map, int i) throws IllegalStateException, IndexOutOfBoundsException {
        requireText();
        requireMap(map);
        requireByteOf(map, i);
        return tree.byteOf(i);
    }

    public int parts(int map, int what)
            throws IllegalStateException, IndexOutOfBoundsException, IllegalArgumentException {
        requireText();
        requireMap(map);
        if (what < 0 || what > 5) {
            throw new IllegalArgumentException("no such part");
        }
        tree.measure(map, level);
        if (what == 1) {
            return tree.toldCells();
        }
        int heads = tree.size() - tree.toldCells();
        return what == 0 ? heads : tree.toldWithCode(what - 2);
    }

    public int block(int map, int level, int block, int what)
            throws IllegalStateException, IndexOutOfBoundsException, IllegalArgumentException {
        requireText();
        requireMap(map);
        requireBlock(level, block);
        tree.measure(map, this.level);
        switch (what) {
            case 0:
                return tree.codeOf(level, block);
            case 1:
                int first = 8 * cellsIn(level) * block;
                return bits.onesIn(map, first, first + 8 * cellsIn(level) - 1);
            case 2:
                return tree.startOf(level, block);
            case 3:
                return tree.isTold(level, block) ? tree.sizeOf(level, block) : NONE;
            default:
                throw new IllegalArgumentException("no such property");
        }
    }

    public int teller(int map, int position) throws IllegalStateException, IndexOutOfBoundsException {
        requireText();
        requireMap(map);
        requirePosition(position);
        tree.measure(map, level);
        return tree.tellerOfCell(position / 8);
    }

    public int told(int map, int i) throws IllegalStateException, IndexOutOfBoundsException {
        requireText();
        requireMap(map);
        requireByteOf(map, i);
        int found = 0;
        for (int cell = 0; cell < cellsIn(level); cell++) {
            if (tree.tellerOfCell(cell) == i) {
                found += 8;
            }
        }
        return found;
    }

    public int lowest(int map) throws IllegalStateException, IndexOutOfBoundsException {
        requireText();
        requireMap(map);
        tree.measure(map, level);
        return tree.lowestTold();
    }

    public int biggest(int map, int what)
            throws IllegalStateException, IndexOutOfBoundsException, IllegalArgumentException {
        requireText();
        requireMap(map);
        if (what != EMPTY && what != FULL && what != SAME) {
            throw new IllegalArgumentException("no such code of a block that is left out");
        }
        tree.measure(map, level);
        int cell = tree.firstCellOfBiggest(what);
        return cell == NONE ? NONE : 8 * cell;
    }

    public int cheapest() throws IllegalStateException {
        requireText();
        int best = NONE;
        int least = 0;
        for (int map = 0; map < maps; map++) {
            int size = sizeOfRow(map);
            if (best == NONE || size < least) {
                best = map;
                least = size;
            }
        }
        return best;
    }

    public double meanBits(int map) throws IllegalStateException, IndexOutOfBoundsException {
        requireText();
        requireMap(map);
        int size = sizeOfRow(map);
        return size < 1 ? 0.0 : (double) onesOfRow(map) / (double) size;
    }

    public float share(int map) throws IllegalStateException, IndexOutOfBoundsException {
        requireText();
        requireMap(map);
        int eighth = cellsIn(level);
        return eighth < 1 ? 0.0f : (float) sizeOfRow(map) / (float) eighth;
    }

    // ---- two maps

    public int common(int map, int other) throws IllegalStateException, IndexOutOfBoundsException {
        requireText();
        requireMap(map);
        requireMap(other);
        bits.merge(AND, map, other, SCRATCH_ROW);
        return onesOfRow(SCRATCH_ROW);
    }

    public int distance(int map, int other) throws IllegalStateException, IndexOutOfBoundsException {
        requireText();
        requireMap(map);
        requireMap(other);
        return bits.unlikeBits(map, 0, other, 0, cellsIn(level));
    }

    public int differs(int map, int other) throws IllegalStateException, IndexOutOfBoundsException {
        requireText();
        requireMap(map);
        requireMap(other);
        for (int p = 0; p < 8 * cellsIn(level); p++) {
            if (bits.bitAt(map, p) != bits.bitAt(other, p)) {
                return p;
            }
        }
        return NONE;
    }

    public boolean isWithin(int map, int other) throws IllegalStateException, IndexOutOfBoundsException {
        requireText();
        requireMap(map);
        requireMap(other);
        bits.merge(BUT, map, other, SCRATCH_ROW);
        return onesOfRow(SCRATCH_ROW) == 0;
    }

    public int alike(int map, int other, int level) throws IllegalStateException, IndexOutOfBoundsException {
        requireText();
        requireMap(map);
        requireMap(other);
        requireLevel(level);
        int length = cellsIn(level);
        int found = 0;
        for (int block = 0; block < blocksAt(level, this.level); block++) {
            int first = block * length;
            if (bits.unlikeBits(map, first, other, first, length) == 0) {
                found++;
            }
        }
        return found;
    }

    public int combined(int kind, int map, int other)
            throws IllegalStateException, IndexOutOfBoundsException, IllegalArgumentException {
        requireText();
        requireMap(map);
        requireMap(other);
        requireKind(kind);
        bits.merge(kind, map, other, SCRATCH_ROW);
        return sizeOfRow(SCRATCH_ROW);
    }

    public int nearest(int map) throws IllegalStateException, IndexOutOfBoundsException {
        requireText();
        requireMap(map);
        int best = NONE;
        int least = 0;
        for (int other = 0; other < maps; other++) {
            int unlike = bits.unlikeBits(map, 0, other, 0, cellsIn(level));
            if (other != map && (best == NONE || unlike < least)) {
                best = other;
                least = unlike;
            }
        }
        return best;
    }

    // ---- what would be

    public int bytesIf(int map, int position) throws IllegalStateException, IndexOutOfBoundsException {
        requireText();
        requireMap(map);
        requirePosition(position);
        tree.measure(map, level);
        return tree.sizeIfFlipped(position);
    }

    public int bestFlip(int map, int from, int to) throws IllegalStateException, IndexOutOfBoundsException {
        requireText();
        requireMap(map);
        requireRange(from, to);
        tree.measure(map, level);
        int best = from;
        int least = tree.sizeIfFlipped(from);
        for (int p = from + 1; p <= to; p++) {
            int size = tree.sizeIfFlipped(p);
            if (size < least) {
                best = p;
                least = size;
            }
        }
        return best;
    }

    public int bytesFilled(int map, int from, int to, int bit)
            throws IllegalStateException, IndexOutOfBoundsException, IllegalArgumentException {
        requireText();
        requireMap(map);
        requireRange(from, to);
        requireBit(bit);
        bits.copyRow(map, SCRATCH_ROW);
        bits.cover(SCRATCH_ROW, from, to, bit);
        return sizeOfRow(SCRATCH_ROW);
    }

    public int bytesShifted(int map, int by) throws IllegalStateException, IndexOutOfBoundsException {
        requireText();
        requireMap(map);
        bits.slide(map, by, 8 * cellsIn(level), SCRATCH_ROW);
        return sizeOfRow(SCRATCH_ROW);
    }

    public int mostLike(int map, int level, int block) throws IllegalStateException, IndexOutOfBoundsException {
        requireText();
        requireMap(map);
        requireBlock(level, block);
        int length = cellsIn(level);
        int best = NONE;
        int least = 0;
        for (int other = 0; other < blocksAt(level, this.level); other++) {
            int unlike = bits.unlikeBits(map, block * length, map, other * length, length);
            if (other != block && (best == NONE || unlike < least)) {
                best = other;
                least = unlike;
            }
        }
        return best;
    }

    // ---- texts

    public int writeBytes(int map) throws IllegalStateException, IndexOutOfBoundsException {
        requireText();
        requireMap(map);
        tree.measure(map, level);
        text.clear();
        for (int i = 0; i < tree.size(); i++) {
            if (i > 0) {
                text.add(' ');
            }
            text.addHex(tree.byteOf(i));
        }
        return text.length();
    }

    public int writeBits(int map, int from, int to)
            throws IllegalStateException, IndexOutOfBoundsException, IllegalArgumentException {
        requireText();
        requireMap(map);
        requireRange(from, to);
        if (to - from >= MAX_WRITTEN_BITS) {
            throw new IllegalArgumentException("the range has too many bits");
        }
        text.clear();
        for (int p = from; p <= to; p++) {
            text.add(bits.bitAt(map, p) == 1 ? '1' : '0');
        }
        return text.length();
    }

    public int writeTree(int map) throws IllegalStateException, IndexOutOfBoundsException {
        requireText();
        requireMap(map);
        tree.measure(map, level);
        text.clear();
        tree.spell(text);
        return text.length();
    }

    public int textByte(int i) throws IndexOutOfBoundsException {
        if (i < 0 || i >= text.length()) {
            throw new IndexOutOfBoundsException("no such byte of the text");
        }
        return text.get(i);
    }

    // ---- changes (each can be undone, the latest one first)

    public int fill(int map, int from, int to, int bit)
            throws IllegalStateException, IndexOutOfBoundsException, IllegalArgumentException {
        requireText();
        requireMap(map);
        requireRange(from, to);
        requireBit(bit);
        history.remember(map);
        int already = bits.onesIn(map, from, to);
        bits.cover(map, from, to, bit);
        return bit == 1 ? to - from + 1 - already : already;
    }

    public int flip(int map, int from, int to) throws IllegalStateException, IndexOutOfBoundsException {
        requireText();
        requireMap(map);
        requireRange(from, to);
        history.remember(map);
        int before = sizeOfRow(map);
        bits.invert(map, from, to);
        return sizeOfRow(map) - before;
    }

    public int combine(int kind, int map, int other, int into)
            throws IllegalStateException, IndexOutOfBoundsException, IllegalArgumentException {
        requireText();
        requireMap(map);
        requireMap(other);
        requireMap(into);
        requireKind(kind);
        history.remember(into);
        bits.merge(kind, map, other, into);
        return onesOfRow(into);
    }

    public int copyBlock(int map, int level, int from, int to)
            throws IllegalStateException, IndexOutOfBoundsException {
        requireText();
        requireMap(map);
        requireBlock(level, from);
        requireBlock(level, to);
        history.remember(map);
        int length = cellsIn(level);
        bits.copyCells(map, from * length, to * length, length);
        return sizeOfRow(map);
    }

    public int shift(int map, int by) throws IllegalStateException, IndexOutOfBoundsException {
        requireText();
        requireMap(map);
        history.remember(map);
        int before = onesOfRow(map);
        bits.slide(map, by, 8 * cellsIn(level), SCRATCH_ROW);
        bits.copyRow(SCRATCH_ROW, map);
        return before - onesOfRow(map);
    }

    public int mirror(int map) throws IllegalStateException, IndexOutOfBoundsException {
        requireText();
        requireMap(map);
        history.remember(map);
        bits.reflect(map, 8 * cellsIn(level), SCRATCH_ROW);
        bits.copyRow(SCRATCH_ROW, map);
        return sizeOfRow(map);
    }

    public int read(int map, int n)
            throws IllegalStateException, IndexOutOfBoundsException, IllegalArgumentException {
        requireText();
        requireMap(map);
        requireBuffered(n);
        int wrong = readToScratch(n);
        input.clear();
        if (wrong != NONE) {
            throw new IllegalArgumentException("the bytes are not the tree of a map");
        }
        history.remember(map);
        bits.copyRow(SCRATCH_ROW, map);
        return onesOfRow(map);
    }

    public int undo() throws IllegalStateException {
        if (history.length() == 0) {
            throw new IllegalStateException("no change can be undone");
        }
        history.goBack();
        return history.length();
    }

    public int undoable() {
        return history.length();
    }

    public int save(int slot) throws IllegalStateException, IndexOutOfBoundsException {
        requireText();
        requireSlot(slot);
        for (int map = 0; map < MAX_MAPS; map++) {
            bits.copyRow(map, SAVED_ROWS + slot * MAX_MAPS + map);
        }
        saved.set(slot, 1);
        return sizeOfAll();
    }

    public int restore(int slot) throws IndexOutOfBoundsException, IllegalStateException {
        requireSlot(slot);
        if (saved.get(slot) == 0) {
            throw new IllegalStateException("nothing is saved there");
        }
        for (int map = 0; map < MAX_MAPS; map++) {
            bits.copyRow(SAVED_ROWS + slot * MAX_MAPS + map, map);
        }
        history.forget();
        return sizeOfAll();
    }

    // ---- what calls require

    private void requireText() {
        if (!loaded) {
            throw new IllegalStateException("no text was loaded");
        }
    }

    private void requireBuffered(int n) {
        if (n < 0 || n > input.length()) {
            throw new IndexOutOfBoundsException("the buffer has not so many bytes");
        }
    }

    private void requireMap(int map) {
        if (map < 0 || map >= maps) {
            throw new IndexOutOfBoundsException("no such map");
        }
    }

    private void requirePosition(int position) {
        if (position < 0 || position >= 8 * cellsIn(level)) {
            throw new IndexOutOfBoundsException("no such position");
        }
    }

    private void requireRange(int from, int to) {
        requirePosition(from);
        requirePosition(to);
        if (from > to) {
            throw new IndexOutOfBoundsException("the range ends before it begins");
        }
    }

    private void requireLevel(int blockLevel) {
        if (blockLevel < 0 || blockLevel > level) {
            throw new IndexOutOfBoundsException("no such level");
        }
    }

    private void requireBlock(int blockLevel, int number) {
        requireLevel(blockLevel);
        if (number < 0 || number >= blocksAt(blockLevel, level)) {
            throw new IndexOutOfBoundsException("no such block");
        }
    }

    // Leaves the map measured, as the calls that ask for a byte go on with its tree.
    private void requireByteOf(int map, int i) {
        if (i < 0 || i >= sizeOfRow(map)) {
            throw new IndexOutOfBoundsException("no such byte");
        }
    }

    private void requireSlot(int slot) {
        if (slot < 0 || slot >= SLOTS) {
            throw new IndexOutOfBoundsException("no such slot");
        }
    }

    private void requireBit(int bit) {
        if (bit != 0 && bit != 1) {
            throw new IllegalArgumentException("a bit is 0 or 1");
        }
    }

    private void requireKind(int kind) {
        if (kind < OR || kind > UNLIKE) {
            throw new IllegalArgumentException("no such combination");
        }
    }

    // ---- sizes

    private int sizeOfRow(int row) {
        tree.measure(row, level);
        return tree.size();
    }

    private int sizeOfAll() {
        int sum = 0;
        for (int map = 0; map < maps; map++) {
            sum += sizeOfRow(map);
        }
        return sum;
    }

    private int onesOfRow(int row) {
        return bits.onesIn(row, 0, 8 * cellsIn(level) - 1);
    }

    private static int cellsIn(int level) {
        return 1 << 2 * level;
    }

    private static int blocksAt(int level, int mapLevel) {
        return 1 << 2 * (mapLevel - level);
    }

    private static int codeIn(int head, int quarter) {
        return head >> 2 * quarter & 3;
    }

    /** Numbers of which none is ever asked or told beyond the ends. */
    private static final class Row {
        private final int[] numbers;

        Row(int length) {
            numbers = new int[length < 0 ? 0 : length];
        }

        int get(int i) {
            return i >= 0 && i < numbers.length ? numbers[i] : 0;
        }

        void set(int i, int number) {
            if (i >= 0 && i < numbers.length) {
                numbers[i] = number;
            }
        }

        void setAll(int number) {
            for (int i = 0; i < numbers.length; i++) {
                numbers[i] = number;
            }
        }
    }

    /** Bytes that are added one behind the other: the input buffer, and the text that was written. */
    private static final class Bytes {
        private final int[] held;
        private int length;

        Bytes(int capacity) {
            held = new int[capacity < 0 ? 0 : capacity];
        }

        int length() {
            return length;
        }

        boolean hasRoom(int more) {
            return length + more <= held.length;
        }

        int get(int i) {
            return i >= 0 && i < length && i < held.length ? held[i] : 0;
        }

        void add(int value) {
            if (length >= 0 && length < held.length) {
                held[length] = value;
                length++;
            }
        }

        void addWord(int word) {
            for (int shift = 24; shift >= 0; shift -= 8) {
                add(word >> shift & 255);
            }
        }

        void addHex(int value) {
            add(digit(value >> 4 & 15));
            add(digit(value & 15));
        }

        private static int digit(int value) {
            return value < 10 ? '0' + value : 'a' + value - 10;
        }

        void clear() {
            length = 0;
        }
    }

    /** The rows of bits: the maps, and what is parsed, kept for undo or saved. */
    private static final class Bits {
        private final int[] cells = new int[ROWS * CELLS];

        int cell(int row, int i) {
            int at = row * CELLS + i;
            return at >= 0 && at < cells.length ? cells[at] : 0;
        }

        void put(int row, int i, int value) {
            int at = row * CELLS + i;
            if (at >= 0 && at < cells.length) {
                cells[at] = value;
            }
        }

        private boolean holds(int at, int length) {
            return at >= 0 && length >= 0 && at <= cells.length - length;
        }

        void copyRow(int from, int to) {
            if (holds(from * CELLS, CELLS) && holds(to * CELLS, CELLS)) {
                System.arraycopy(cells, from * CELLS, cells, to * CELLS, CELLS);
            }
        }

        void copyCells(int row, int from, int to, int length) {
            int source = row * CELLS + from;
            int goal = row * CELLS + to;
            if (holds(source, length) && holds(goal, length)) {
                System.arraycopy(cells, source, cells, goal, length);
            }
        }

        void setCells(int row, int first, int length, int value) {
            for (int i = first; i < first + length; i++) {
                put(row, i, value);
            }
        }

        boolean isAll(int row, int first, int length, int value) {
            for (int i = first; i < first + length; i++) {
                if (cell(row, i) != value) {
                    return false;
                }
            }
            return true;
        }

        int bitAt(int row, int position) {
            return cell(row, position >> 3) >> (position & 7) & 1;
        }

        private static int mask(int cell, int from, int to) {
            int first = Math.max(from - 8 * cell, 0);
            int last = Math.min(to - 8 * cell, 7);
            return first > last ? 0 : 255 << first & 255 >> 7 - last;
        }

        int onesIn(int row, int from, int to) {
            int sum = 0;
            for (int i = from >> 3; i <= to >> 3; i++) {
                sum += Integer.bitCount(cell(row, i) & mask(i, from, to));
            }
            return sum;
        }

        void cover(int row, int from, int to, int bit) {
            for (int i = from >> 3; i <= to >> 3; i++) {
                int mask = mask(i, from, to);
                put(row, i, bit == 1 ? cell(row, i) | mask : cell(row, i) & ~mask);
            }
        }

        void invert(int row, int from, int to) {
            for (int i = from >> 3; i <= to >> 3; i++) {
                put(row, i, cell(row, i) ^ mask(i, from, to));
            }
        }

        // Cell by cell, so that the row that becomes it may be one of both.
        void merge(int kind, int row, int other, int into) {
            for (int i = 0; i < CELLS; i++) {
                put(into, i, mergedCell(kind, cell(row, i), cell(other, i)));
            }
        }

        private static int mergedCell(int kind, int a, int b) {
            switch (kind) {
                case OR:
                    return a | b;
                case AND:
                    return a & b;
                case BUT:
                    return a & ~b;
                default:
                    return a ^ b;
            }
        }

        void slide(int row, int by, int size, int into) {
            setCells(into, 0, CELLS, 0);
            for (int p = 0; p < size; p++) {
                // p - by may leave the ints.
                long source = (long) p - by;
                if (source >= 0 && source < size && bitAt(row, (int) source) == 1) {
                    setBit(into, p);
                }
            }
        }

        void reflect(int row, int size, int into) {
            setCells(into, 0, CELLS, 0);
            for (int p = 0; p < size; p++) {
                if (bitAt(row, p) == 1) {
                    setBit(into, size - 1 - p);
                }
            }
        }

        private void setBit(int row, int position) {
            put(row, position >> 3, cell(row, position >> 3) | 1 << (position & 7));
        }

        int unlikeBits(int row, int first, int other, int otherFirst, int length) {
            int sum = 0;
            for (int i = 0; i < length; i++) {
                sum += Integer.bitCount(cell(row, first + i) ^ cell(other, otherFirst + i));
            }
            return sum;
        }
    }

    /** The changes that can be undone: the maps that they changed, as these were before. */
    private static final class History {
        private final Bits bits;
        private final Row changed = new Row(MAX_UNDO);
        private int latest;
        private int length;

        History(Bits bits) {
            this.bits = bits;
        }

        int length() {
            return length;
        }

        void remember(int map) {
            latest = latest + 1 < MAX_UNDO ? latest + 1 : 0;
            changed.set(latest, map);
            bits.copyRow(map, PAST_ROWS + latest);
            length = Math.min(length + 1, MAX_UNDO);
        }

        void goBack() {
            if (length > 0) {
                bits.copyRow(PAST_ROWS + latest, changed.get(latest));
                latest = latest > 0 ? latest - 1 : MAX_UNDO - 1;
                length--;
            }
        }

        void forget() {
            length = 0;
        }
    }

    /** The tree of a row (section 2), as it was when it was measured. */
    private static final class Tree {
        // Of no block that was measured.
        private static final int NEW_KIND = -2;
        private static final int ALL_EMPTY = 0;
        private static final int ALL_FULL = 0x01010101;

        private final Bits bits;
        // Blocks of one level have the same kind if they have the same bits: EMPTY, FULL, or a
        // greater one below 256, so that the kinds of four quarters make up one key.
        private final Row kinds = new Row(NODES);
        private final Row keys = new Row(NODES);
        private final Row sizes = new Row(NODES);
        private final Row codes = new Row(NODES);
        private final Row starts = new Row(NODES);
        private final Row content = new Row(NODES);
        private int row;
        private int level;

        Tree(Bits bits) {
            this.bits = bits;
        }

        // The index of a block in the rows above: all blocks of the level 0 first, then those of 1.
        private static int node(int level, int block) {
            return (4 * CELLS - (4 * CELLS >> 2 * level)) / 3 + block;
        }

        void measure(int measuredRow, int mapLevel) {
            row = measuredRow;
            level = mapLevel;
            for (int i = 0; i < cellsIn(level); i++) {
                kinds.set(i, kindOfCell(bits.cell(row, i)));
                sizes.set(i, 1);
            }
            for (int l = 1; l <= level; l++) {
                for (int b = 0; b < blocksAt(l, level); b++) {
                    measureBlock(l, b);
                }
            }
            layOut();
        }

        private static int kindOfCell(int value) {
            if (value == 0) {
                return EMPTY;
            }
            return value == 255 ? FULL : value + 1;
        }

        private void measureBlock(int l, int b) {
            int last = NONE;
            int size = 1;
            int key = 0;
            for (int quarter = 0; quarter < 4; quarter++) {
                int child = node(l - 1, 4 * b + quarter);
                int kind = kinds.get(child);
                int code = codeOfKind(kind, last);
                codes.set(child, code);
                key |= kind << 8 * quarter;
                if (code == TREE) {
                    last = kind;
                    size += sizes.get(child);
                }
            }
            sizes.set(node(l, b), size);
            keys.set(node(l, b), key);
            kinds.set(node(l, b), kindOfKey(l, key));
        }

        private static int codeOfKind(int kind, int last) {
            if (kind == EMPTY || kind == FULL) {
                return kind;
            }
            return kind == last ? SAME : TREE;
        }

        // Blocks of one kind need not lie in the same block: those round them are compared by it, too.
        private int kindOfKey(int l, int key) {
            if (key == ALL_EMPTY) {
                return EMPTY;
            }
            if (key == ALL_FULL) {
                return FULL;
            }
            int first = node(l, 0);
            int blocks = blocksAt(l, level);
            for (int b = 0; b < blocks; b++) {
                if (keys.get(first + b) == key) {
                    return b + 2;
                }
            }
            return NEW_KIND;
        }

        private void layOut() {
            starts.setAll(NONE);
            starts.set(node(level, 0), 0);
            for (int l = level; l > 0; l--) {
                for (int b = 0; b < blocksAt(l, level); b++) {
                    if (isTold(l, b)) {
                        layOutBlock(l, b);
                    }
                }
            }
            for (int i = 0; i < cellsIn(level); i++) {
                if (isTold(0, i)) {
                    content.set(starts.get(i), bits.cell(row, i));
                }
            }
        }

        private void layOutBlock(int l, int b) {
            int start = starts.get(node(l, b));
            int at = start + 1;
            int head = 0;
            for (int quarter = 0; quarter < 4; quarter++) {
                int child = node(l - 1, 4 * b + quarter);
                head |= codes.get(child) << 2 * quarter;
                if (codes.get(child) == TREE) {
                    starts.set(child, at);
                    at += sizes.get(child);
                }
            }
            content.set(start, head);
        }

        int size() {
            return sizes.get(node(level, 0));
        }

        int byteOf(int i) {
            return content.get(i);
        }

        boolean isTold(int l, int b) {
            return starts.get(node(l, b)) != NONE;
        }

        int startOf(int l, int b) {
            return starts.get(node(l, b));
        }

        int sizeOf(int l, int b) {
            return sizes.get(node(l, b));
        }

        // The code in a head; NONE where no head tells one.
        int codeOf(int l, int b) {
            return l < level && isTold(l + 1, b >> 2) ? codes.get(node(l, b)) : NONE;
        }

        int toldCells() {
            int found = 0;
            for (int i = 0; i < cellsIn(level); i++) {
                if (isTold(0, i)) {
                    found++;
                }
            }
            return found;
        }

        int toldWithCode(int code) {
            int found = 0;
            for (int l = 0; l < level; l++) {
                for (int b = 0; b < blocksAt(l, level); b++) {
                    if (codeOf(l, b) == code) {
                        found++;
                    }
                }
            }
            return found;
        }

        int tellerOfCell(int cell) {
            int b = 0;
            for (int l = level; l > 0; l--) {
                int child = 4 * b + (cell >> 2 * (l - 1) & 3);
                int code = codes.get(node(l - 1, child));
                if (code == EMPTY || code == FULL) {
                    return starts.get(node(l, b));
                }
                b = code == TREE ? child : twinOf(l - 1, child);
            }
            return starts.get(node(0, b));
        }

        // The last quarter ahead of a block, in the same block, with the code 2.
        private int twinOf(int l, int b) {
            int twin = b - 1;
            while (twin > (b & ~3) && codes.get(node(l, twin)) != TREE) {
                twin--;
            }
            return twin;
        }

        int lowestTold() {
            for (int l = 0; l < level; l++) {
                for (int b = 0; b < blocksAt(l, level); b++) {
                    if (isTold(l, b)) {
                        return l;
                    }
                }
            }
            return level;
        }

        int firstCellOfBiggest(int code) {
            for (int l = level - 1; l >= 0; l--) {
                for (int b = 0; b < blocksAt(l, level); b++) {
                    if (codeOf(l, b) == code) {
                        return b * cellsIn(l);
                    }
                }
            }
            return NONE;
        }

        // Only the blocks round a bit have another tree then, so the others are not measured again.
        int sizeIfFlipped(int position) {
            int b = position >> 3;
            int kind = kindOfCell(bits.cell(row, b) ^ 1 << (position & 7));
            int size = 1;
            for (int l = 1; l <= level; l++) {
                size = sizeWith(l, b, kind, size);
                kind = kindWith(l, b, kind);
                b = b >> 2;
            }
            return size;
        }

        // The size, and the kind, of the block of the level l round the block b, if this was such a one.
        private int sizeWith(int l, int b, int kind, int size) {
            int last = NONE;
            int sum = 1;
            for (int quarter = b & ~3; quarter <= (b | 3); quarter++) {
                int child = node(l - 1, quarter);
                int here = quarter == b ? kind : kinds.get(child);
                if (codeOfKind(here, last) == TREE) {
                    last = here;
                    sum += quarter == b ? size : sizes.get(child);
                }
            }
            return sum;
        }

        private int kindWith(int l, int b, int kind) {
            if (kind == NEW_KIND) {
                return NEW_KIND;
            }
            int shift = 8 * (b & 3);
            return kindOfKey(l, keys.get(node(l, b >> 2)) & ~(255 << shift) | kind << shift);
        }

        void spell(Bytes text) {
            spellBlock(this, text, level, 0);
        }

        // Goes one level down with each call of itself, and no further than to the level 0.
        private static void spellBlock(Tree tree, Bytes text, int l, int b) {
            if (l <= 0) {
                text.addHex(tree.content.get(tree.startOf(0, b)));
                return;
            }
            text.add('(');
            for (int quarter = 4 * b; quarter < 4 * b + 4; quarter++) {
                int code = tree.codes.get(node(l - 1, quarter));
                if (code == TREE) {
                    spellBlock(tree, text, l - 1, quarter);
                } else {
                    text.add(code == EMPTY ? '-' : code == FULL ? '+' : '=');
                }
            }
            text.add(')');
        }
    }

    /** Reads a tree byte by byte (section 3) and makes the bits of a row from it. */
    private static final class Reader {
        // Each step closes a block or one of its quarters, of at most five blocks that are open.
        private static final int MAX_STEPS = 5 * (MAX_LEVEL + 1);

        private final Bits bits;
        // Of the blocks on the way to that whose first byte is due, by their levels.
        private final Row blocks = new Row(MAX_LEVEL + 1);
        private final Row heads = new Row(MAX_LEVEL + 1);
        private final Row quarters = new Row(MAX_LEVEL + 1);
        private int row;
        private int level;
        private int open;
        private boolean whole;

        Reader(Bits bits) {
            this.bits = bits;
        }

        void begin(int goal, int mapLevel) {
            row = goal;
            level = mapLevel;
            open = mapLevel;
            blocks.set(open, 0);
            whole = false;
        }

        boolean isWhole() {
            return whole;
        }

        // Whether a tree goes on so.
        boolean take(int value) {
            if (whole || open > 0 && !isHead(value)) {
                return false;
            }
            if (open == 0) {
                bits.put(row, blocks.get(0), value);
            }
            heads.set(open, value);
            quarters.set(open, open == 0 ? 4 : 0);
            for (int step = 0; step < MAX_STEPS; step++) {
                if (quarters.get(open) < 4) {
                    if (opensQuarter()) {
                        return true;
                    }
                } else if (open >= level) {
                    whole = true;
                    return true;
                } else if (mayStand()) {
                    open++;
                    quarters.set(open, quarters.get(open) + 1);
                } else {
                    return false;
                }
            }
            return false;
        }

        private static boolean isHead(int value) {
            for (int quarter = 0; quarter < 4; quarter++) {
                if (codeIn(value, quarter) == SAME && lastTree(value, quarter) == NONE) {
                    return false;
                }
            }
            return true;
        }

        // The last quarter ahead of one with the code 2.
        private static int lastTree(int head, int quarter) {
            int last = NONE;
            for (int q = 0; q < quarter; q++) {
                if (codeIn(head, q) == TREE) {
                    last = q;
                }
            }
            return last;
        }

        // Goes down to the next quarter if it has a tree of its own; otherwise its bits are known.
        private boolean opensQuarter() {
            int head = heads.get(open);
            int quarter = quarters.get(open);
            int code = codeIn(head, quarter);
            int first = 4 * blocks.get(open);
            if (code == TREE) {
                open--;
                blocks.set(open, first + quarter);
                return true;
            }
            int length = cellsIn(open - 1);
            int start = (first + quarter) * length;
            if (code == SAME) {
                bits.copyCells(row, (first + lastTree(head, quarter)) * length, start, length);
            } else {
                bits.setCells(row, start, length, code == FULL ? 255 : 0);
            }
            quarters.set(open, quarter + 1);
            return false;
        }

        // Whether the open block, which is whole, is one that needs a tree of its own.
        private boolean mayStand() {
            int length = cellsIn(open);
            int start = blocks.get(open) * length;
            if (bits.isAll(row, start, length, 0) || bits.isAll(row, start, length, 255)) {
                return false;
            }
            int twin = lastTree(heads.get(open + 1), quarters.get(open + 1));
            int twinStart = (4 * blocks.get(open + 1) + twin) * length;
            return twin == NONE || bits.unlikeBits(row, twinStart, row, start, length) > 0;
        }
    }

    /** Parses a text (section 5) into staged rows, so that a wrong one changes no map. */
    private static final class Parser {
        private static final int MAX_LETTERS = 6;
        private static final int MAX_DIGITS = 4;

        private static final int END = 0;
        private static final int WORD = 1;
        private static final int NUMBER = 2;
        private static final int SEMICOLON = 3;
        private static final int WRONG = 4;

        private static final int FLIPPED = 2;

        private final Bytes input;
        private final Bits bits;
        private final Reader reader;
        private final Row names = new Row(MAX_MAPS);
        private int end;
        private int at;
        private int token;
        private int tokenStart;
        private int tokenValue;
        private int level;
        private int maps;
        private int error;
        private int errorStart;

        Parser(Bytes input, Bits bits, Reader reader) {
            this.input = input;
            this.bits = bits;
            this.reader = reader;
        }

        int parsedLevel() {
            return level;
        }

        int parsedMaps() {
            return maps;
        }

        int parsedName(int map) {
            return names.get(map);
        }

        int errorCode() {
            return error;
        }

        int errorAt() {
            return errorStart;
        }

        // The number of the word that the first bytes are; NONE if they are none.
        int nameIn(int n) {
            begin(n);
            return token == WORD && tokenStart == 0 && at == n ? tokenValue : NONE;
        }

        boolean parse(int n) {
            error = 0;
            errorStart = NONE;
            maps = 0;
            begin(n);
            if (!takeWord("level")) {
                return false;
            }
            level = takeNumber(1, MAX_LEVEL);
            if (level == NONE) {
                return false;
            }
            // Each line has a semicolon of its own ahead of it.
            for (int line = 0; line < n; line++) {
                if (token == END) {
                    return true;
                }
                if (token != SEMICOLON) {
                    return fail(1);
                }
                advance();
                if (!takeLine()) {
                    return false;
                }
            }
            return token == END || fail(1);
        }

        private boolean takeLine() {
            if (isWord("map")) {
                return takeMapLine();
            }
            if (isWord("fill")) {
                return takeRangeLine(1);
            }
            if (isWord("clear")) {
                return takeRangeLine(0);
            }
            if (isWord("flip")) {
                return takeRangeLine(FLIPPED);
            }
            if (isWord("or")) {
                return takeOrLine();
            }
            return isWord("tree") ? takeTreeLine() : fail(1);
        }

        private boolean takeMapLine() {
            if (maps >= MAX_MAPS) {
                return fail(4);
            }
            advance();
            if (token != WORD) {
                return fail(1);
            }
            if (mapNamed(tokenValue) != NONE) {
                return fail(3);
            }
            names.set(maps, tokenValue);
            bits.setCells(STAGED_ROWS + maps, 0, CELLS, 0);
            maps++;
            advance();
            return true;
        }

        private boolean takeRangeLine(int bit) {
            advance();
            int map = takeMap();
            if (map == NONE) {
                return false;
            }
            int last = 8 * cellsIn(level) - 1;
            int from = takeNumber(0, last);
            if (from == NONE) {
                return false;
            }
            int to = takeNumber(from, last);
            if (to == NONE) {
                return false;
            }
            if (bit == FLIPPED) {
                bits.invert(STAGED_ROWS + map, from, to);
            } else {
                bits.cover(STAGED_ROWS + map, from, to, bit);
            }
            return true;
        }

        private boolean takeOrLine() {
            advance();
            int map = takeMap();
            if (map == NONE) {
                return false;
            }
            int other = takeMap();
            if (other == NONE) {
                return false;
            }
            bits.merge(OR, STAGED_ROWS + map, STAGED_ROWS + other, STAGED_ROWS + map);
            return true;
        }

        private boolean takeTreeLine() {
            advance();
            int map = takeMap();
            if (map == NONE) {
                return false;
            }
            if (token != NUMBER) {
                return fail(1);
            }
            reader.begin(STAGED_ROWS + map, level);
            // No more numbers than bytes of the text.
            for (int i = 0; i < end && token == NUMBER; i++) {
                if (tokenValue > 255) {
                    return fail(2);
                }
                if (!reader.take(tokenValue)) {
                    return fail(5);
                }
                advance();
            }
            if (token != SEMICOLON && token != END) {
                return fail(1);
            }
            return reader.isWhole() || fail(5);
        }

        private boolean takeWord(String word) {
            if (!isWord(word)) {
                return fail(1);
            }
            advance();
            return true;
        }

        private int takeMap() {
            if (token != WORD) {
                fail(1);
                return NONE;
            }
            int map = mapNamed(tokenValue);
            if (map == NONE) {
                fail(3);
                return NONE;
            }
            advance();
            return map;
        }

        private int takeNumber(int least, int most) {
            if (token != NUMBER) {
                fail(1);
                return NONE;
            }
            int number = tokenValue;
            if (number < least || number > most) {
                fail(2);
                return NONE;
            }
            advance();
            return number;
        }

        private boolean fail(int code) {
            error = code;
            errorStart = tokenStart;
            return false;
        }

        private int mapNamed(int name) {
            for (int map = 0; map < maps; map++) {
                if (names.get(map) == name) {
                    return map;
                }
            }
            return NONE;
        }

        private boolean isWord(String word) {
            int number = 0;
            for (int i = 0; i < word.length(); i++) {
                number = withLetter(number, word.charAt(i));
            }
            return token == WORD && tokenValue == number;
        }

        // Six letters of five bits each are one number.
        private static int withLetter(int number, int letter) {
            return number << 5 | letter - 'a' + 1;
        }

        private void begin(int n) {
            end = n;
            at = 0;
            advance();
        }

        private void advance() {
            while (at < end && input.get(at) == ' ') {
                at++;
            }
            tokenStart = at;
            tokenValue = 0;
            int sign = input.get(at);
            if (at >= end) {
                token = END;
            } else if (isLetter(sign)) {
                while (at < end && isLetter(input.get(at))) {
                    tokenValue = withLetter(tokenValue, input.get(at));
                    at++;
                }
                token = at - tokenStart <= MAX_LETTERS ? WORD : WRONG;
            } else if (isDigit(sign)) {
                while (at < end && isDigit(input.get(at))) {
                    tokenValue = 10 * tokenValue + input.get(at) - '0';
                    at++;
                }
                token = at - tokenStart <= MAX_DIGITS ? NUMBER : WRONG;
            } else {
                token = sign == ';' ? SEMICOLON : WRONG;
                at++;
            }
        }

        private static boolean isLetter(int sign) {
            return sign >= 'a' && sign <= 'z';
        }

        private static boolean isDigit(int sign) {
            return sign >= '0' && sign <= '9';
        }
    }
}
