import java.util.Arrays;

/**
 * Packs bytes: runs are shortened, each block is sorted by its rotations, told by how far up each
 * byte stands in a list, runs of zeros are shortened, and all is put into bits by up to six codes;
 * and unpacks any bytes that are so, or tells the first fault and its place.
 */
public final class RotationPress {
    public static final int NONE = -1;

    private static final int TAPE_MOST = 10240;
    private static final int FEED_BYTES = 20;
    private static final int LIMIT_MOST = 60000;
    /** Enough for most files; a greater one lets the row grow. */
    private static final int OUT_ROOM = 16384;

    private static final int FIRST_BYTE = 82;
    private static final int SECOND_BYTE = 80;
    private static final int LEVEL_ZERO = 48;
    private static final int LEVEL_MOST = 9;
    private static final int LEVEL_BYTES = 250;
    private static final int BLOCK_MOST = LEVEL_MOST * LEVEL_BYTES;

    private static final int RUN_MOST = 255;
    private static final int RUN_FULL = 4;
    private static final int NUMBER_MOST = RUN_MOST - RUN_FULL;

    private static final int BYTE_KINDS = 256;
    private static final int SIXTEEN = 16;
    private static final int SYMBOL_KINDS = BYTE_KINDS + 2;
    /** Each symbol but the last one tells one byte or more, so there are no more of them. */
    private static final int SYMBOLS_MOST = BLOCK_MOST + 1;
    private static final int GROUP = 50;
    private static final int GROUPS_MOST = (SYMBOLS_MOST + GROUP - 1) / GROUP;
    private static final int TABLES_LEAST = 2;
    private static final int TABLES_MOST = 6;
    private static final int TIMES = 4;

    private static final int LONGEST_MADE = 17;
    private static final int LONGEST_READ = 20;
    /** All codes of a table together, when each counts 2 to the power of 20 less its length. */
    private static final int WHOLE = 1 << LONGEST_READ;

    private static final int FAULT_FIRST_BYTES = 1;
    private static final int FAULT_BITS_END = 2;
    private static final int FAULT_EIGHT_BITS = 3;
    private static final int FAULT_SIXTEEN = 4;
    private static final int FAULT_GROUPS = 5;
    private static final int FAULT_LENGTHS = 6;
    private static final int FAULT_NO_CODE = 7;
    private static final int FAULT_LAST_TOO_LONG = 8;
    private static final int FAULT_ORIGIN = 9;
    private static final int FAULT_LAST_SYMBOL = 10;
    private static final int FAULT_RUN = 11;
    private static final int FAULT_LIMIT = 12;
    private static final int FAULT_CHECK = 13;
    private static final int FAULT_CHECK_OF_ALL = 14;
    private static final int FAULT_BEHIND = 15;

    private static final int PIECES = 11;
    private static final int PIECES_OF_TABLES = 5;
    private static final int ABOUTS = 8;

    private final ByteRow tape;
    private final ByteRow made;
    private final Packer packer;
    private final Unpacker unpacker;
    private int faultPlace;
    private boolean piecesStand;

    public RotationPress() {
        ByteRow from = new ByteRow(TAPE_MOST);
        ByteRow to = new ByteRow(OUT_ROOM);
        tape = from;
        made = to;
        packer = new Packer(from, to);
        unpacker = new Unpacker(from, to);
        faultPlace = NONE;
        piecesStand = false;
    }

    public int feed(int a, int b, int c, int d, int e) throws IllegalStateException {
        if (tape.count > TAPE_MOST - FEED_BYTES) {
            throw new IllegalStateException("the tape has no room for twenty bytes");
        }
        tape.addNumber(a);
        tape.addNumber(b);
        tape.addNumber(c);
        tape.addNumber(d);
        tape.addNumber(e);
        return tape.count;
    }

    public void end(int n) throws IllegalArgumentException {
        if (n < 0 || n > tape.count) {
            throw new IllegalArgumentException("the tape has not so many bytes");
        }
        tape.count = n;
    }

    public int alter(int i, int b) throws IndexOutOfBoundsException, IllegalArgumentException {
        if (!tape.has(i)) {
            throw new IndexOutOfBoundsException("the tape has no such byte");
        }
        if (b < 0 || b >= BYTE_KINDS) {
            throw new IllegalArgumentException("a byte is 0 .. 255");
        }
        return tape.exchange(i, b);
    }

    public int copy() throws IllegalStateException {
        if (made.count > TAPE_MOST) {
            throw new IllegalStateException("the out has more bytes than a tape takes");
        }
        tape.become(made);
        return tape.count;
    }

    public int pack(int level) throws IllegalArgumentException {
        if (level < 1 || level > LEVEL_MOST) {
            throw new IllegalArgumentException("a level is 1 .. 9");
        }
        packer.packFile(level);
        piecesStand = packer.blocks > 0;
        tape.count = 0;
        return made.count;
    }

    public int unpack(int limit) throws IllegalArgumentException {
        if (limit < 0 || limit > LIMIT_MOST) {
            throw new IllegalArgumentException("a limit is 0 .. 60000");
        }
        boolean whole = unpacker.unpackFile(limit);
        faultPlace = unpacker.reader.faultAt;
        piecesStand = false;
        tape.count = 0;
        if (!whole) {
            made.count = 0;
            return -unpacker.reader.fault;
        }
        return made.count;
    }

    public int place() {
        return faultPlace;
    }

    public int length() {
        return tape.count;
    }

    public int size() {
        return made.count;
    }

    public int out(int i) throws IndexOutOfBoundsException {
        if (!made.has(i)) {
            throw new IndexOutOfBoundsException("the out has no such byte");
        }
        return made.get(i);
    }

    public int piece(int which, int i) throws IllegalArgumentException {
        if (which < 0 || which >= PIECES) {
            throw new IllegalArgumentException("a piece is 0 .. 10");
        }
        return piecesStand ? packer.block.tell(which, i) : NONE;
    }

    public int about(int what) throws IllegalArgumentException {
        if (what < 0 || what >= ABOUTS) {
            throw new IllegalArgumentException("what is told is 0 .. 7");
        }
        return packer.tell(what);
    }

    /** A row of bytes, each 0 .. 255. */
    private static final class ByteRow {
        private int[] bytes;
        int count;

        ByteRow(int room) {
            bytes = new int[Math.max(room, 1)];
            count = 0;
        }

        boolean has(int i) {
            return i >= 0 && i < count;
        }

        int get(int i) {
            return i >= 0 && i < count ? bytes[i] : NONE;
        }

        void add(int b) {
            if (count >= bytes.length) {
                bytes = Arrays.copyOf(bytes, 2 * bytes.length);
            }
            bytes[count] = b;
            count++;
        }

        void addNumber(int number) {
            add(number >>> 24);
            add((number >>> 16) & 255);
            add((number >>> 8) & 255);
            add(number & 255);
        }

        int exchange(int i, int b) {
            if (!has(i)) {
                return NONE;
            }
            int before = bytes[i];
            bytes[i] = b;
            return before;
        }

        void become(ByteRow other) {
            if (bytes.length < other.count) {
                bytes = new int[other.count];
            }
            System.arraycopy(other.bytes, 0, bytes, 0, other.count);
            count = other.count;
        }
    }

    /** THE CHECK: that of a block byte by byte, and how those of blocks become that of all. */
    private static final class Check {
        private static final int JOINED = 0x04c11db7;

        /** What the eight bits that go out at the left leave behind: eight steps at once. */
        private final int[] leaves;
        private int bits;

        Check() {
            leaves = new int[BYTE_KINDS];
            bits = -1;
            for (int b = 0; b < BYTE_KINDS; b++) {
                int left = b << 24;
                for (int n = 0; n < 8; n++) {
                    left = left < 0 ? (left << 1) ^ JOINED : left << 1;
                }
                leaves[b] = left;
            }
        }

        void begin() {
            bits = -1;
        }

        void add(int b) {
            bits = (bits << 8) ^ leaves[((bits >>> 24) ^ b) & 255];
        }

        int ofBlock() {
            return ~bits;
        }

        static int ofAll(int before, int block) {
            return ((before << 1) | (before >>> 31)) ^ block;
        }
    }

    /** A list in which each member that is told goes to the front. */
    private static final class FrontList {
        private final int[] members;
        int count;

        FrontList() {
            members = new int[BYTE_KINDS];
            count = 0;
        }

        void append(int member) {
            if (count < members.length) {
                members[count] = member;
                count++;
            }
        }

        void beginWithFirst(int numbers) {
            count = 0;
            for (int n = 0; n < numbers; n++) {
                append(n);
            }
        }

        /** How many stood before the member that goes to the front; NONE if it is not there. */
        int raise(int member) {
            for (int at = 0; at < count; at++) {
                if (members[at] == member) {
                    raiseAt(at);
                    return at;
                }
            }
            return NONE;
        }

        /** The member before which so many stood; NONE if there are not so many. */
        int raiseAt(int at) {
            if (at < 0 || at >= count) {
                return NONE;
            }
            int member = members[at];
            System.arraycopy(members, 0, members, 1, at);
            members[0] = member;
            return member;
        }
    }

    /**
     * Sorts a block's rotations: by their first 1, 2, 4, 8 .. bytes, for comparing them whole would
     * be slow where a block repeats itself.
     */
    private static final class Rotations {
        private int[] order;
        private int[] orderNext;
        /** Where the first of those begins in the order that are equal so far. */
        private int[] rank;
        private int[] rankNext;
        private final int[] slots;
        private int ranks;

        Rotations() {
            order = new int[BLOCK_MOST];
            orderNext = new int[BLOCK_MOST];
            rank = new int[BLOCK_MOST];
            rankNext = new int[BLOCK_MOST];
            slots = new int[BLOCK_MOST];
            ranks = 0;
        }

        /** Writes LAST and answers ORIGIN; n is how many bytes there are, 1 .. BLOCK_MOST. */
        int rotate(int[] bytes, int n, int[] last) {
            sortByByte(bytes, n, order, slots);
            rankByByte(bytes, n);
            for (int width = 1; width < n && ranks < n; width *= 2) {
                sortByNext(n, width);
                rankByNext(n, width);
            }
            sortEqualByPlace(n);
            int origin = 0;
            for (int at = 0; at < n; at++) {
                int begin = order[at];
                if (begin == 0) {
                    origin = at;
                }
                last[at] = bytes[begin == 0 ? n - 1 : begin - 1];
            }
            return origin;
        }

        /**
         * Writes for each place in the row sorted by bytes (equal ones by their place) the place
         * before; the slots, one more than there are bytes, are used on the way.
         */
        static void sortByByte(int[] bytes, int n, int[] places, int[] slots) {
            Arrays.fill(slots, 0, BYTE_KINDS + 1, 0);
            for (int at = 0; at < n; at++) {
                slots[bytes[at] + 1]++;
            }
            for (int b = 1; b < BYTE_KINDS; b++) {
                slots[b] += slots[b - 1];
            }
            for (int at = 0; at < n; at++) {
                places[slots[bytes[at]]] = at;
                slots[bytes[at]]++;
            }
        }

        private void rankByByte(int[] bytes, int n) {
            ranks = 0;
            for (int at = 0; at < n; at++) {
                boolean equal = at > 0 && bytes[order[at]] == bytes[order[at - 1]];
                rank[order[at]] = equal ? rank[order[at - 1]] : at;
                ranks += equal ? 0 : 1;
            }
        }

        private void openSlots(int n) {
            for (int at = 0; at < n; at++) {
                slots[at] = at;
            }
        }

        private void sortByNext(int n, int width) {
            openSlots(n);
            for (int at = 0; at < n; at++) {
                int begin = order[at] - width;
                begin += begin < 0 ? n : 0;
                orderNext[slots[rank[begin]]] = begin;
                slots[rank[begin]]++;
            }
            int[] free = order;
            order = orderNext;
            orderNext = free;
        }

        private void rankByNext(int n, int width) {
            ranks = 0;
            int before = 0;
            int beforeNext = 0;
            for (int at = 0; at < n; at++) {
                int begin = order[at];
                int next = begin + width;
                next -= next >= n ? n : 0;
                boolean equal = at > 0 && rank[begin] == rank[before] && rank[next] == rank[beforeNext];
                rankNext[begin] = equal ? rankNext[before] : at;
                ranks += equal ? 0 : 1;
                before = begin;
                beforeNext = next;
            }
            int[] free = rank;
            rank = rankNext;
            rankNext = free;
        }

        private void sortEqualByPlace(int n) {
            openSlots(n);
            for (int begin = 0; begin < n; begin++) {
                order[slots[rank[begin]]] = begin;
                slots[rank[begin]]++;
            }
        }
    }

    /** A code: the lengths of its symbols and what follows from them. */
    private static final class CodeTable {
        final int[] lengths;
        final int[] codes;
        int kinds;
        /** The symbols by their lengths, then in their order. */
        private final int[] sorted;
        /** For each length: how many codes there are, the first one, where it stands in sorted. */
        private final int[] counts;
        private final int[] firsts;
        private final int[] places;
        private int filled;

        CodeTable() {
            lengths = new int[SYMBOL_KINDS];
            codes = new int[SYMBOL_KINDS];
            sorted = new int[SYMBOL_KINDS];
            counts = new int[LONGEST_READ + 1];
            firsts = new int[LONGEST_READ + 1];
            places = new int[LONGEST_READ + 1];
            kinds = 0;
            filled = 0;
        }

        /** Makes the codes of the lengths, each 1 .. 20; answers false when they are too short. */
        boolean assign() {
            Arrays.fill(counts, 0);
            filled = 0;
            for (int symbol = 0; symbol < kinds; symbol++) {
                counts[lengths[symbol]]++;
                filled += WHOLE >> lengths[symbol];
            }
            if (filled > WHOLE) {
                return false;
            }
            for (int n = 1; n <= LONGEST_READ; n++) {
                firsts[n] = (firsts[n - 1] + counts[n - 1]) << 1;
                places[n] = places[n - 1] + counts[n - 1];
            }
            // counts serve as counters while the symbols are dealt out, and are whole again then
            Arrays.fill(counts, 0);
            for (int symbol = 0; symbol < kinds; symbol++) {
                int n = lengths[symbol];
                codes[symbol] = firsts[n] + counts[n];
                sorted[places[n] + counts[n]] = symbol;
                counts[n]++;
            }
            return true;
        }

        /** The next symbol, or NONE when a fault was told. */
        int read(BitReader reader) {
            int begin = reader.at;
            int code = 0;
            for (int n = 1; n <= LONGEST_READ; n++) {
                int bit = reader.bit();
                if (bit == NONE) {
                    return NONE;
                }
                code = (code << 1) | bit;
                int step = code - firsts[n];
                if (step >= 0 && step < counts[n]) {
                    return sorted[places[n] + step];
                }
                // codes fill the numbers from 0 on without a gap, so behind them none begins so
                if ((code << (LONGEST_READ - n)) >= filled) {
                    break;
                }
            }
            reader.fail(FAULT_NO_CODE, begin);
            return NONE;
        }
    }

    /** A block that is packed, with all that is told of it. */
    private static final class Block {
        final int[] told;
        int toldCount;
        final int[] last;
        final int[] ups;
        final int[] symbols;
        int symbolCount;
        /** 1 for each byte that the block has, else 0. */
        final int[] used;
        final FrontList list;
        int origin;
        int check;
        final int[] groupTables;
        int groupCount;
        int tableCount;
        final CodeTable[] tables;

        Block() {
            told = new int[BLOCK_MOST];
            last = new int[BLOCK_MOST];
            ups = new int[BLOCK_MOST];
            symbols = new int[SYMBOLS_MOST];
            used = new int[BYTE_KINDS];
            list = new FrontList();
            groupTables = new int[GROUPS_MOST];
            tables = new CodeTable[TABLES_MOST];
            for (int t = 0; t < TABLES_MOST; t++) {
                tables[t] = new CodeTable();
            }
        }

        int tell(int which, int i) {
            switch (which) {
                case 0:
                    return element(told, toldCount, i);
                case 1:
                    return element(last, toldCount, i);
                case 2:
                    return element(ups, toldCount, i);
                case 3:
                    return element(symbols, symbolCount, i);
                case 4:
                    return element(groupTables, groupCount, i);
                default:
                    return lengthIn(which - PIECES_OF_TABLES, i);
            }
        }

        private int lengthIn(int table, int i) {
            return table >= 0 && table < tableCount ? element(tables[table].lengths, tables[table].kinds, i) : NONE;
        }

        private static int element(int[] row, int count, int i) {
            return i >= 0 && i < count && i < row.length ? row[i] : NONE;
        }

        /** Takes runs from this place on, as long as they fit whole; answers where the next begins. */
        int takeRuns(ByteRow tape, int from, int most, Check sum) {
            toldCount = 0;
            sum.begin();
            int at = from;
            for (int runs = 0; runs < most && at < tape.count; runs++) {
                int run = runFrom(tape, at);
                int needed = run < RUN_FULL ? run : RUN_FULL + 1;
                if (toldCount + needed > most) {
                    break;
                }
                tellRun(tape.get(at), run, sum);
                at += run;
            }
            check = sum.ofBlock();
            return at;
        }

        private static int runFrom(ByteRow tape, int from) {
            int run = 1;
            while (run < RUN_MOST && from + run < tape.count && tape.get(from + run) == tape.get(from)) {
                run++;
            }
            return run;
        }

        private void tellRun(int b, int run, Check sum) {
            for (int n = 0; n < run; n++) {
                sum.add(b);
                if (n < RUN_FULL) {
                    told[toldCount] = b;
                    toldCount++;
                }
            }
            if (run >= RUN_FULL) {
                told[toldCount] = run - RUN_FULL;
                toldCount++;
            }
        }

        /** LISTED, from LAST. */
        void makeUps() {
            Arrays.fill(used, 0);
            for (int at = 0; at < toldCount; at++) {
                used[last[at]] = 1;
            }
            list.count = 0;
            for (int b = 0; b < BYTE_KINDS; b++) {
                if (used[b] == 1) {
                    list.append(b);
                }
            }
            for (int at = 0; at < toldCount; at++) {
                ups[at] = list.raise(last[at]);
            }
        }

        void makeSymbols() {
            symbolCount = 0;
            int zeros = 0;
            for (int at = 0; at < toldCount; at++) {
                if (ups[at] == 0) {
                    zeros++;
                } else {
                    tellZeros(zeros);
                    zeros = 0;
                    symbols[symbolCount] = ups[at] + 1;
                    symbolCount++;
                }
            }
            tellZeros(zeros);
            symbols[symbolCount] = list.count + 1;
            symbolCount++;
        }

        private void tellZeros(int zeros) {
            for (int left = zeros; left > 0; left = (left - 1) >> 1) {
                symbols[symbolCount] = (left - 1) & 1;
                symbolCount++;
            }
        }
    }

    /** CODES: which tables a block has, and which of them each group. */
    private static final class Coder {
        /** First the weights of symbols, behind them those of the sums, in the order made. */
        private final int[] weights;
        private final int[] sums;
        private final int[] depths;
        private final int[] sorted;
        private final int[] slots;

        Coder() {
            weights = new int[2 * SYMBOL_KINDS];
            sums = new int[2 * SYMBOL_KINDS];
            depths = new int[2 * SYMBOL_KINDS];
            sorted = new int[SYMBOL_KINDS];
            slots = new int[SYMBOLS_MOST + 3];
        }

        void makeTables(Block block) {
            int kinds = block.list.count + 2;
            block.groupCount = (block.symbolCount + GROUP - 1) / GROUP;
            block.tableCount = tablesFor(block.symbolCount);
            for (int g = 0; g < block.groupCount; g++) {
                block.groupTables[g] = g * block.tableCount / block.groupCount;
            }
            for (int time = 0; time < TIMES; time++) {
                for (int t = 0; t < block.tableCount; t++) {
                    weigh(block, t, kinds);
                    makeLengths(block.tables[t].lengths, kinds);
                }
                chooseTables(block);
            }
            for (int t = 0; t < block.tableCount; t++) {
                block.tables[t].kinds = kinds;
                block.tables[t].assign();
            }
        }

        private static int tablesFor(int symbols) {
            if (symbols < 200) {
                return 2;
            }
            if (symbols < 600) {
                return 3;
            }
            if (symbols < 1200) {
                return 4;
            }
            return symbols < 2400 ? 5 : 6;
        }

        private static int endOf(Block block, int group) {
            return Math.min(block.symbolCount, (group + 1) * GROUP);
        }

        private void weigh(Block block, int table, int kinds) {
            Arrays.fill(weights, 0, kinds, 1);
            for (int g = 0; g < block.groupCount; g++) {
                if (block.groupTables[g] == table) {
                    int end = endOf(block, g);
                    for (int at = g * GROUP; at < end; at++) {
                        weights[block.symbols[at]]++;
                    }
                }
            }
        }

        private static void chooseTables(Block block) {
            for (int g = 0; g < block.groupCount; g++) {
                int best = 0;
                int least = bitsOf(block, g, block.tables[0].lengths);
                for (int t = 1; t < block.tableCount; t++) {
                    int bits = bitsOf(block, g, block.tables[t].lengths);
                    if (bits < least) {
                        least = bits;
                        best = t;
                    }
                }
                block.groupTables[g] = best;
            }
        }

        private static int bitsOf(Block block, int group, int[] lengths) {
            int end = endOf(block, group);
            int bits = 0;
            for (int at = group * GROUP; at < end; at++) {
                bits += lengths[block.symbols[at]];
            }
            return bits;
        }

        /** Halving brings every weight to 1 or 2 in the end, so the tries are more than enough. */
        private void makeLengths(int[] lengths, int kinds) {
            boolean fits = false;
            for (int tries = 0; tries < 32 && !fits; tries++) {
                if (tries > 0) {
                    halve(kinds);
                }
                sortByWeight(kinds);
                joinLeast(kinds);
                fits = tellLengths(lengths, kinds) <= LONGEST_MADE;
            }
        }

        private void halve(int kinds) {
            for (int symbol = 0; symbol < kinds; symbol++) {
                weights[symbol] = weights[symbol] / 2 + 1;
            }
        }

        private void sortByWeight(int kinds) {
            int most = 0;
            for (int symbol = 0; symbol < kinds; symbol++) {
                most = Math.max(most, weights[symbol]);
            }
            Arrays.fill(slots, 0, most + 2, 0);
            for (int symbol = 0; symbol < kinds; symbol++) {
                slots[weights[symbol] + 1]++;
            }
            for (int weight = 1; weight <= most; weight++) {
                slots[weight] += slots[weight - 1];
            }
            for (int symbol = 0; symbol < kinds; symbol++) {
                sorted[slots[weights[symbol]]] = symbol;
                slots[weights[symbol]]++;
            }
        }

        /**
         * Sums are made in the order of their weights, so the least is always the first symbol in
         * the sorted row or the first sum that are not joined yet.
         */
        private void joinLeast(int kinds) {
            int symbol = 0;
            int sum = kinds;
            for (int made = kinds; made < 2 * kinds - 1; made++) {
                weights[made] = 0;
                for (int n = 0; n < 2; n++) {
                    boolean noSum = sum == made;
                    int least = sum;
                    if (symbol < kinds && (noSum || weights[sorted[symbol]] <= weights[sum])) {
                        least = sorted[symbol];
                        symbol++;
                    } else {
                        sum++;
                    }
                    sums[least] = made;
                    weights[made] += weights[least];
                }
            }
        }

        /** Answers the greatest length. */
        private int tellLengths(int[] lengths, int kinds) {
            int most = 0;
            depths[2 * kinds - 2] = 0;
            for (int node = 2 * kinds - 3; node >= 0; node--) {
                depths[node] = depths[sums[node]] + 1;
                if (node < kinds) {
                    lengths[node] = depths[node];
                    most = Math.max(most, lengths[node]);
                }
            }
            return most;
        }
    }

    /** Writes THE FILE. */
    private static final class BitWriter {
        private final ByteRow row;
        private final FrontList tableList;
        private int held;
        private int heldCount;

        BitWriter(ByteRow to) {
            row = to;
            tableList = new FrontList();
            held = 0;
            heldCount = 0;
        }

        private void put(int value, int count) {
            for (int left = count - 1; left >= 0; left--) {
                held = (held << 1) | ((value >>> left) & 1);
                heldCount++;
                if (heldCount == 8) {
                    row.add(held);
                    held = 0;
                    heldCount = 0;
                }
            }
        }

        void begin(int level) {
            row.count = 0;
            put(FIRST_BYTE, 8);
            put(SECOND_BYTE, 8);
            put(LEVEL_ZERO + level, 8);
        }

        void finish(int checkOfAll) {
            put(0, 8);
            put(checkOfAll, 32);
            put(0, (8 - heldCount) & 7);
        }

        void write(Block block) {
            put(1, 8);
            put(block.check, 32);
            put(block.origin, 16);
            putUsed(block.used);
            put(block.tableCount, 3);
            put(block.groupCount, 15);
            putGroups(block);
            for (int t = 0; t < block.tableCount; t++) {
                putLengths(block.tables[t]);
            }
            putSymbols(block);
        }

        private void putUsed(int[] used) {
            int sixteens = 0;
            for (int b = 0; b < BYTE_KINDS; b++) {
                sixteens |= used[b] << (15 - b / SIXTEEN);
            }
            put(sixteens, 16);
            for (int b = 0; b < BYTE_KINDS; b++) {
                if (((sixteens >> (15 - b / SIXTEEN)) & 1) == 1) {
                    put(used[b], 1);
                }
            }
        }

        private void putGroups(Block block) {
            tableList.beginWithFirst(block.tableCount);
            for (int g = 0; g < block.groupCount; g++) {
                int ones = tableList.raise(block.groupTables[g]);
                for (int n = 0; n < ones; n++) {
                    put(1, 1);
                }
                put(0, 1);
            }
        }

        private void putLengths(CodeTable table) {
            int now = table.lengths[0];
            put(now, 5);
            for (int symbol = 0; symbol < table.kinds; symbol++) {
                int due = table.lengths[symbol];
                for (; now < due; now++) {
                    put(2, 2);
                }
                for (; now > due; now--) {
                    put(3, 2);
                }
                put(0, 1);
            }
        }

        private void putSymbols(Block block) {
            for (int at = 0; at < block.symbolCount; at++) {
                CodeTable table = block.tables[block.groupTables[at / GROUP]];
                int symbol = block.symbols[at];
                put(table.codes[symbol], table.lengths[symbol]);
            }
        }
    }

    /** Packs a tape block by block, and keeps what is told about it. */
    private static final class Packer {
        private final ByteRow tape;
        final Block block;
        int blocks;
        private int toldInAll;
        private int symbolsInAll;
        private int groupsInAll;
        private final Check check;
        private final Rotations rotations;
        private final Coder coder;
        private final BitWriter writer;

        Packer(ByteRow from, ByteRow to) {
            tape = from;
            block = new Block();
            check = new Check();
            rotations = new Rotations();
            coder = new Coder();
            writer = new BitWriter(to);
        }

        void packFile(int level) {
            blocks = 0;
            toldInAll = 0;
            symbolsInAll = 0;
            groupsInAll = 0;
            int checkOfAll = 0;
            int at = 0;
            writer.begin(level);
            // a block takes one run at least, so there are no more blocks than bytes
            for (int n = 0; n < tape.count && at < tape.count; n++) {
                at = block.takeRuns(tape, at, level * LEVEL_BYTES, check);
                block.origin = rotations.rotate(block.told, block.toldCount, block.last);
                block.makeUps();
                block.makeSymbols();
                coder.makeTables(block);
                writer.write(block);
                checkOfAll = Check.ofAll(checkOfAll, block.check);
                addUp();
            }
            writer.finish(checkOfAll);
        }

        private void addUp() {
            blocks++;
            toldInAll += block.toldCount;
            symbolsInAll += block.symbolCount;
            groupsInAll += block.groupCount;
        }

        int tell(int what) {
            if (blocks == 0) {
                return 0;
            }
            switch (what) {
                case 0:
                    return blocks;
                case 1:
                    return toldInAll;
                case 2:
                    return symbolsInAll;
                case 3:
                    return groupsInAll;
                case 4:
                    return block.origin;
                case 5:
                    return block.list.count;
                case 6:
                    return block.tableCount;
                default:
                    return block.check;
            }
        }
    }

    /** Reads bits, and keeps the first fault that is told. */
    private static final class BitReader {
        private final ByteRow row;
        int end;
        int at;
        int taken;
        int fault;
        int faultAt;

        BitReader(ByteRow from) {
            row = from;
            end = 0;
            at = 0;
            taken = 0;
            fault = 0;
            faultAt = NONE;
        }

        void begin() {
            end = 8 * row.count;
            at = 0;
            taken = 0;
            fault = 0;
            faultAt = NONE;
        }

        /** Always answers false, so that whoever finds a fault can end with it. */
        boolean fail(int number, int bit) {
            fault = number;
            faultAt = bit;
            return false;
        }

        /** The next bit; NONE, and a fault, when there is none. */
        int bit() {
            if (at >= end) {
                fail(FAULT_BITS_END, end);
                return NONE;
            }
            int bit = (row.get(at >> 3) >> (7 - (at & 7))) & 1;
            at++;
            return bit;
        }

        /** Takes so many bits, 32 at most; answers false when a fault was told. */
        boolean take(int count) {
            taken = 0;
            for (int n = 0; n < count; n++) {
                int bit = bit();
                if (bit == NONE) {
                    return false;
                }
                taken = (taken << 1) | bit;
            }
            return true;
        }
    }

    /** Unpacks a tape; each step answers false when a fault was told. */
    private static final class Unpacker {
        private final ByteRow row;
        final BitReader reader;
        private final Check check;
        private final FrontList list;
        private final FrontList tableList;
        private final CodeTable[] tables;
        private final int[] groupTables;
        private final int[] last;
        private final int[] nexts;
        private final int[] slots;
        private int limit;
        private int most;
        private int blockAt;
        private int originAt;
        private int origin;
        private int blockCheck;
        private int tableCount;
        private int groupCount;
        private int lastCount;

        Unpacker(ByteRow from, ByteRow to) {
            row = to;
            reader = new BitReader(from);
            check = new Check();
            list = new FrontList();
            tableList = new FrontList();
            groupTables = new int[GROUPS_MOST];
            last = new int[BLOCK_MOST];
            nexts = new int[BLOCK_MOST];
            slots = new int[BYTE_KINDS + 1];
            tables = new CodeTable[TABLES_MOST];
            for (int t = 0; t < TABLES_MOST; t++) {
                tables[t] = new CodeTable();
            }
        }

        boolean unpackFile(int mostOut) {
            reader.begin();
            row.count = 0;
            limit = mostOut;
            if (!readFirstBytes()) {
                return false;
            }
            int checkOfAll = 0;
            // each block takes bits, so there are fewer blocks than bits
            for (int n = 0; n < reader.end; n++) {
                blockAt = reader.at;
                if (!reader.take(8)) {
                    return false;
                }
                if (reader.taken == 0) {
                    return readFinish(checkOfAll);
                }
                if (reader.taken != 1) {
                    return reader.fail(FAULT_EIGHT_BITS, blockAt);
                }
                if (!readBlock() || !unrotate()) {
                    return false;
                }
                checkOfAll = Check.ofAll(checkOfAll, blockCheck);
            }
            return reader.fail(FAULT_BITS_END, reader.end);
        }

        private boolean readFirstBytes() {
            if (!readByte(FIRST_BYTE, FIRST_BYTE) || !readByte(SECOND_BYTE, SECOND_BYTE)
                    || !readByte(LEVEL_ZERO + 1, LEVEL_ZERO + LEVEL_MOST)) {
                return false;
            }
            most = (reader.taken - LEVEL_ZERO) * LEVEL_BYTES;
            return true;
        }

        private boolean readByte(int least, int greatest) {
            int begin = reader.at;
            if (!reader.take(8)) {
                return false;
            }
            boolean such = reader.taken >= least && reader.taken <= greatest;
            return such || reader.fail(FAULT_FIRST_BYTES, begin);
        }

        private boolean readFinish(int checkOfAll) {
            int begin = reader.at;
            if (!reader.take(32)) {
                return false;
            }
            if (reader.taken != checkOfAll) {
                return reader.fail(FAULT_CHECK_OF_ALL, begin);
            }
            int behind = reader.at;
            int left = reader.end - behind;
            if (left >= 8 || !reader.take(left) || reader.taken != 0) {
                return reader.fail(FAULT_BEHIND, behind);
            }
            return true;
        }

        private boolean readBlock() {
            if (!reader.take(32)) {
                return false;
            }
            blockCheck = reader.taken;
            originAt = reader.at;
            if (!reader.take(16)) {
                return false;
            }
            origin = reader.taken;
            return readUsed() && readCounts() && readGroups() && readTables() && readLast();
        }

        private boolean readUsed() {
            list.count = 0;
            if (!readSixteen()) {
                return false;
            }
            int sixteens = reader.taken;
            for (int high = 0; high < SIXTEEN; high++) {
                if (((sixteens >> (15 - high)) & 1) == 1) {
                    if (!readSixteen()) {
                        return false;
                    }
                    appendSixteen(high * SIXTEEN, reader.taken);
                }
            }
            return true;
        }

        private boolean readSixteen() {
            int begin = reader.at;
            if (!reader.take(SIXTEEN)) {
                return false;
            }
            return reader.taken != 0 || reader.fail(FAULT_SIXTEEN, begin);
        }

        private void appendSixteen(int first, int told) {
            for (int low = 0; low < SIXTEEN; low++) {
                if (((told >> (15 - low)) & 1) == 1) {
                    list.append(first + low);
                }
            }
        }

        private boolean readCounts() {
            int begin = reader.at;
            if (!reader.take(3)) {
                return false;
            }
            tableCount = reader.taken;
            if (tableCount < TABLES_LEAST || tableCount > TABLES_MOST) {
                return reader.fail(FAULT_GROUPS, begin);
            }
            begin = reader.at;
            if (!reader.take(15)) {
                return false;
            }
            groupCount = reader.taken;
            return groupCount > 0 || reader.fail(FAULT_GROUPS, begin);
        }

        private boolean readGroups() {
            tableList.beginWithFirst(tableCount);
            for (int g = 0; g < groupCount; g++) {
                int begin = reader.at;
                int ones = 0;
                int bit = reader.bit();
                while (bit == 1 && ones < tableCount - 1) {
                    ones++;
                    bit = reader.bit();
                }
                if (bit == NONE) {
                    return false;
                }
                if (bit == 1) {
                    return reader.fail(FAULT_GROUPS, begin);
                }
                int table = tableList.raiseAt(ones);
                // LAST is too long before symbols come to a group behind these
                if (g < GROUPS_MOST) {
                    groupTables[g] = table;
                }
            }
            return true;
        }

        private boolean readTables() {
            for (int t = 0; t < tableCount; t++) {
                int begin = reader.at;
                if (!readLengths(tables[t])) {
                    return false;
                }
                if (!tables[t].assign()) {
                    return reader.fail(FAULT_LENGTHS, begin);
                }
            }
            return true;
        }

        private static boolean isLength(int n) {
            return n >= 1 && n <= LONGEST_READ;
        }

        private boolean readLengths(CodeTable table) {
            int begin = reader.at;
            if (!reader.take(5)) {
                return false;
            }
            int now = reader.taken;
            if (!isLength(now)) {
                return reader.fail(FAULT_LENGTHS, begin);
            }
            table.kinds = list.count + 2;
            for (int symbol = 0; symbol < table.kinds; symbol++) {
                now = readLength(now);
                if (now == NONE) {
                    return false;
                }
                table.lengths[symbol] = now;
            }
            return true;
        }

        /** The length that the bits make of the one before; NONE when a fault was told. */
        private int readLength(int before) {
            int now = before;
            for (int n = 0; n < reader.end; n++) {
                int begin = reader.at;
                int more = reader.bit();
                if (more == 0) {
                    return now;
                }
                int less = more == NONE ? NONE : reader.bit();
                if (less == NONE) {
                    return NONE;
                }
                now += less == 1 ? -1 : 1;
                if (!isLength(now)) {
                    reader.fail(FAULT_LENGTHS, begin);
                    return NONE;
                }
            }
            reader.fail(FAULT_BITS_END, reader.end);
            return NONE;
        }

        private boolean readLast() {
            lastCount = 0;
            int digit = 1;
            for (int n = 0; n < SYMBOLS_MOST && n < groupCount * GROUP; n++) {
                int begin = reader.at;
                int symbol = tables[groupTables[n / GROUP]].read(reader);
                if (symbol == NONE) {
                    return false;
                }
                if (symbol == list.count + 1) {
                    return endLast(n / GROUP);
                }
                boolean zeros = symbol <= 1;
                int times = zeros ? digit << symbol : 1;
                if (lastCount + times > most) {
                    return reader.fail(FAULT_LAST_TOO_LONG, begin);
                }
                int b = list.raiseAt(zeros ? 0 : symbol - 1);
                Arrays.fill(last, lastCount, lastCount + times, b);
                lastCount += times;
                digit = zeros ? 2 * digit : 1;
            }
            return reader.fail(FAULT_LAST_SYMBOL, blockAt);
        }

        private boolean endLast(int group) {
            if (group != groupCount - 1) {
                return reader.fail(FAULT_LAST_SYMBOL, blockAt);
            }
            return origin < lastCount || reader.fail(FAULT_ORIGIN, originAt);
        }

        /** Brings the block's bytes back from LAST, and makes their runs long again. */
        private boolean unrotate() {
            Rotations.sortByByte(last, lastCount, nexts, slots);
            check.begin();
            int equal = 0;
            int before = NONE;
            int at = origin;
            for (int n = 0; n < lastCount; n++) {
                at = nexts[at];
                int b = last[at];
                boolean number = equal == RUN_FULL;
                if (number && b > NUMBER_MOST) {
                    return reader.fail(FAULT_RUN, blockAt);
                }
                if (!giveOut(number ? before : b, number ? b : 1)) {
                    return reader.fail(FAULT_LIMIT, blockAt);
                }
                // behind a number the count begins anew, whatever byte comes then
                if (number) {
                    equal = 0;
                } else {
                    equal = b == before ? equal + 1 : 1;
                    before = b;
                }
            }
            if (equal == RUN_FULL) {
                return reader.fail(FAULT_RUN, blockAt);
            }
            return check.ofBlock() == blockCheck || reader.fail(FAULT_CHECK, blockAt);
        }

        /** Answers false when the limit does not let so many out. */
        private boolean giveOut(int b, int times) {
            if (row.count + times > limit) {
                return false;
            }
            for (int n = 0; n < times; n++) {
                row.add(b);
                check.add(b);
            }
            return true;
        }
    }
}
