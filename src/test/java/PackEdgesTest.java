import java.util.ArrayList;
import java.util.Arrays;
import java.util.List;
import java.util.Random;

/** The terms of packing and promises 6, 12 and 13, sentence by sentence, at their edges; worked out by hand. */
public final class PackEdgesTest {
    private static final Class<IllegalArgumentException> ARGUMENT = IllegalArgumentException.class;
    private static final int NONE = RotationPress.NONE;
    private static final int LEAST = Integer.MIN_VALUE;
    private static final int GREATEST = Integer.MAX_VALUE;
    private static final int FULL = 10240;

    public static void main(String[] args) {
        runsUpTo255();
        runsThatLookAlike();
        blocksOfEachLevel();
        runsThatFitWhole();
        runsThatDoNotFit();
        fullTapeOfFours();
        rotatedWithoutSign();
        rotatedEqual();
        originFirstAndLast();
        listedOne();
        listedAll();
        rowsOfZeros();
        groupsOfFifty();
        tablesBySymbols();
        mostSymbols();
        oneSymbolMostOften();
        fourTimes();
        tableWithoutGroups();
        fileOfNothing();
        fileOfOneByte();
        fileTellsSixteens();
        fileTellsOrigin();
        fileEndsWithAByte();
        checkOfPackedBytes();
        checkOfAllTurnsRound();
        levelsTaken();
        levelsRefused();
        pieceEnds();
        pieceOfTablesThatAreNot();
        pieceNone();
        pieceOfTheLastBlock();
        pieceWhich();
        aboutInAll();
        aboutNothing();
        aboutWhat();
        Due.finish();
    }

    private static RotationPress packed(int level, int... bytes) {
        RotationPress press = Due.fed(bytes);
        press.pack(level);
        return press;
    }

    /** All that piece() answers from 0 on, up to the first NONE. */
    private static int[] pieces(RotationPress press, int which) {
        List<Integer> row = new ArrayList<>();
        for (int i = 0; press.piece(which, i) != NONE; i++) {
            row.add(press.piece(which, i));
        }
        return Reference.row(row);
    }

    /** So many bytes of which no two neighbours are equal. */
    private static int[] apart(int n) {
        return row(n, 200);
    }

    private static int[] row(int n, int kinds) {
        int[] bytes = new int[n];
        for (int i = 0; i < n; i++) {
            bytes[i] = i % kinds;
        }
        return bytes;
    }

    private static String bits(RotationPress press) {
        StringBuilder text = new StringBuilder();
        for (int b : Due.out(press)) {
            text.append(Reference.bits(b, 8));
        }
        return text.toString();
    }

    private static void text(String what, String got, String want) {
        Due.same(what + ": " + got + " for " + want, got.equals(want) ? 1 : 0, 1);
    }

    /** "up to 255. One of less than four is TOLD by its bytes, one of n others by four of them and n - 4." */
    private static void runsUpTo255() {
        told(1, 7);
        told(2, 7, 7);
        told(3, 7, 7, 7);
        told(4, 7, 7, 7, 7, 0);
        told(5, 7, 7, 7, 7, 1);
        told(254, 7, 7, 7, 7, 250);
        told(255, 7, 7, 7, 7, 251);
        told(256, 7, 7, 7, 7, 251, 7);
        told(257, 7, 7, 7, 7, 251, 7, 7);
        told(258, 7, 7, 7, 7, 251, 7, 7, 7);
        told(259, 7, 7, 7, 7, 251, 7, 7, 7, 7, 0);
        told(510, 7, 7, 7, 7, 251, 7, 7, 7, 7, 251);
        told(511, 7, 7, 7, 7, 251, 7, 7, 7, 7, 251, 7);
    }

    private static void told(int n, int... want) {
        Due.same(n + " equal bytes", pieces(packed(1, Due.times(7, n)), 0), want);
        int[] between = Due.joined(new int[] {8}, Due.times(7, n), new int[] {6});
        Due.same(n + " equal bytes between others", pieces(packed(1, between), 0),
                Due.joined(new int[] {8}, want, new int[] {6}));
    }

    /** "Four equal bytes .. always have a number behind them, also when they come from runs that were cut." */
    private static void runsThatLookAlike() {
        for (int n = 253; n <= 262; n++) {
            int behind = n - 255;
            int[] bytes = Due.times(251, n);
            RotationPress press = packed(1, bytes);
            int[] want = behind < 0 ? new int[] {251, 251, 251, 251, n - 4}
                    : behind < 4 ? Due.times(251, 5 + behind)
                    : Due.joined(Due.times(251, 9), new int[] {behind - 4});
            Due.same("251, " + n + " times", pieces(press, 0), want);
            press.copy();
            Due.same("251 comes back", press.unpack(n), n);
            Due.same("251 comes back whole", Due.out(press), bytes);
        }
        Due.same("0, four times", pieces(packed(1, 0, 0, 0, 0), 0), Due.times(0, 5));
        Due.same("a number and its byte again", pieces(packed(1, 1, 1, 1, 1, 1, 2, 1), 0), new int[] {1, 1, 1, 1, 1, 2, 1});
    }

    /** "a block has at most 250 times the level of the bytes that tell runs". */
    private static void blocksOfEachLevel() {
        for (int level = 1; level <= 9; level++) {
            int most = 250 * level;
            blocks("one less", packed(level, apart(most - 1)), 1, most - 1, most - 1);
            blocks("as many as may be", packed(level, apart(most)), 1, most, most);
            blocks("one more", packed(level, apart(most + 1)), 2, most + 1, 1);
            blocks("twice as many", packed(level, apart(2 * most)), 2, 2 * most, most);
            blocks("twice as many and one", packed(level, apart(2 * most + 1)), 3, 2 * most + 1, 1);
        }
    }

    private static void blocks(String what, RotationPress press, int blocks, int told, int inLast) {
        Due.same(what + ": blocks", press.about(0), blocks);
        Due.same(what + ": bytes that tell runs", press.about(1), told);
        Due.same(what + ": those of the last block", pieces(press, 0).length, inLast);
    }

    /** "runs come to it as long as they fit whole". */
    private static void runsThatFitWhole() {
        for (int level : new int[] {1, 2, 9}) {
            for (int run : new int[] {1, 2, 3, 4, 5, 255}) {
                int needed = run < 4 ? run : 5;
                int most = 250 * level;
                int[] fits = Due.joined(apart(most - needed), Due.times(255, run));
                blocks("a run of " + run + " fits", packed(level, fits), 1, most, most);
                int[] more = Due.joined(fits, new int[] {254});
                blocks("a byte behind it does not", packed(level, more), 2, most + 1, 1);
            }
        }
    }

    /** "the next one begins another block": no part of it, and nothing behind it, comes to the one before. */
    private static void runsThatDoNotFit() {
        for (int level : new int[] {1, 2, 9}) {
            for (int run : new int[] {2, 3, 4, 5, 255}) {
                int needed = run < 4 ? run : 5;
                int most = 250 * level;
                for (int free = 1; free < needed; free++) {
                    int[] bytes = Due.joined(apart(most - free), Due.times(255, run), new int[] {1});
                    RotationPress press = packed(level, bytes);
                    blocks("a run of " + run + " for " + free, press, 2, most - free + needed + 1, needed + 1);
                    Due.same("it begins the block", press.piece(0, 0), 255);
                    Due.same("what comes behind it", press.piece(0, needed), 1);
                }
            }
            // a run of 256 is cut, and each part fits or not for itself
            int[] cut = Due.joined(apart(250 * level - 5), Due.times(255, 256));
            blocks("only the 256th does not fit", packed(level, cut), 2, 250 * level + 1, 1);
        }
    }

    /** "(THE TAPE) 10240 at most": all of them are packed; runs of four make the most of them. */
    private static void fullTapeOfFours() {
        int[] fours = new int[FULL];
        for (int i = 0; i < FULL; i++) {
            fours[i] = i / 4 % 251;
        }
        blocks("2560 runs of four", packed(1, fours), 52, 12800, 50);
        blocks("2560 runs of four, level 9", packed(9, fours), 6, 12800, 12800 - 5 * 2250);
        RotationPress equal = Due.filled(97, FULL);
        Due.same("a full tape of one byte packs", equal.pack(9) > 8 ? 1 : 0, 1);
        blocks("40 runs of 255 and one of 40", equal, 1, 205, 205);
        equal.copy();
        Due.same("one less is too few", equal.unpack(FULL - 1), -12);
        RotationPress again = Due.filled(97, FULL);
        again.pack(9);
        again.copy();
        Due.same("all come back", again.unpack(FULL), FULL);
        Due.same("as they were", Due.out(again), Due.times(97, FULL));
    }

    /** "bytes without a sign". */
    private static void rotatedWithoutSign() {
        rotated(new int[] {127, 128}, 0, 128, 127);
        rotated(new int[] {128, 127}, 1, 128, 127);
        rotated(new int[] {0, 255}, 0, 255, 0);
        rotated(new int[] {255, 0}, 1, 255, 0);
        rotated(new int[] {129, 128, 127, 0}, 3, 127, 128, 129, 0);
    }

    private static void rotated(int[] bytes, int origin, int... last) {
        RotationPress press = packed(1, bytes);
        Due.same("LAST of " + Arrays.toString(bytes), pieces(press, 1), last);
        Due.same("ORIGIN of " + Arrays.toString(bytes), press.about(4), origin);
    }

    /** "equal ones by where they begin", up to a block that is all equal and to the greatest block. */
    private static void rotatedEqual() {
        rotated(new int[] {5}, 0, 5);
        rotated(new int[] {5, 5}, 0, 5, 5);
        rotated(new int[] {5, 5, 5}, 0, 5, 5, 5);
        rotated(Due.times(0, 4), 0, Due.times(0, 5));
        rotated(Due.times(251, 40 * 255), 0, Due.times(251, 200));
        rotated(Due.bytes("abab"), 0, Due.bytes("bbaa"));
        rotated(Due.bytes("baba"), 2, Due.bytes("bbaa"));
        RotationPress most = packed(9, Due.bytes("ba".repeat(1125)));
        Due.same("ORIGIN of 1125 times ba", most.about(4), 1125);
        Due.same("LAST of 1125 times ba", pieces(most, 1), Due.joined(Due.times('b', 1125), Due.times('a', 1125)));
        Due.same("ORIGIN of 1125 times ab", packed(9, Due.bytes("ab".repeat(1125))).about(4), 0);
    }

    /** "ORIGIN the place (from 0)": the first place and the last one of the greatest block. */
    private static void originFirstAndLast() {
        int[] least = row(2250, 200);
        for (int i = 1; i < least.length; i++) {
            least[i]++;
        }
        Due.same("the block begins with its least byte", packed(9, least).about(4), 0);
        int[] greatest = row(2250, 200);
        greatest[0] = 255;
        Due.same("the block begins with its greatest byte", packed(9, greatest).about(4), 2249);
        greatest = row(250, 100);
        greatest[0] = 255;
        Due.same("and so at level 1", packed(1, greatest).about(4), 249);
    }

    /** "the bytes that the block has": one only. */
    private static void listedOne() {
        for (int b : new int[] {0, 1, 255}) {
            RotationPress press = packed(1, b, b, b);
            Due.same("in the list", press.about(5), 1);
            Due.same("how far up", pieces(press, 2), new int[] {0, 0, 0});
            Due.same("three zeros and the last symbol", pieces(press, 3), new int[] {0, 0, 2});
        }
        Due.same("a number is one of them", packed(1, 9, 9, 9, 9).about(5), 2);
        Due.same("also if it is the byte", packed(1, 0, 0, 0, 0).about(5), 1);
    }

    /** All 256 bytes, "ascending": LAST is 255, 0, 1 .. 254, and 255 stands as far up as can be. */
    private static void listedAll() {
        RotationPress press = packed(2, row(256, 256));
        Due.same("in the list", press.about(5), 256);
        Due.same("LAST", pieces(press, 1), Due.joined(new int[] {255}, row(255, 256)));
        int[] ups = row(256, 256);
        ups[0] = 255;
        Due.same("how far up", pieces(press, 2), ups);
        int[] symbols = Due.joined(Arrays.stream(ups).map(v -> v + 1).toArray(), new int[] {257});
        Due.same("symbols: v + 1, and 257 at last", pieces(press, 3), symbols);
        Due.same("a table has all 258", pieces(press, 5).length, 258);
        Due.same("255 bytes have 257", pieces(packed(2, row(255, 256)), 5).length, 257);
    }

    /** "a row of z numbers 0, as long as it may be, is told by digits 1 and 2": from 0 to 1124 of them. */
    private static void rowsOfZeros() {
        zeros(1);
        zeros(2, 0);
        zeros(3, 1);
        zeros(4, 0, 0);
        zeros(5, 1, 0);
        zeros(6, 0, 1);
        zeros(7, 1, 1);
        zeros(8, 0, 0, 0);
        zeros(128, 0, 0, 0, 0, 0, 0, 0);
        zeros(129, 1, 0, 0, 0, 0, 0, 0);
        zeros(1023, 1, 1, 1, 1, 1, 1, 1, 1, 1);
        zeros(1024, 0, 0, 0, 0, 0, 0, 0, 0, 0, 0);
        for (int times = 1; times <= 1125; times += times < 70 ? 1 : 13) {
            int[] symbols = pieces(packed(9, Due.bytes("ab".repeat(times))), 3);
            int half = (symbols.length - 1) / 2;
            int sum = 0;
            for (int k = 1; k < half; k++) {
                sum += (symbols[k] + 1) << (k - 1);
            }
            Due.same("digits come to z", sum, times - 1);
        }
    }

    /** So many times ab: LAST has all b, then all a, so a row of one less zeros comes twice. */
    private static void zeros(int times, int... digits) {
        int[] two = {2};
        int[] want = Due.joined(two, digits, two, digits, new int[] {3});
        Due.same(times + " times ab", pieces(packed(9, Due.bytes("ab".repeat(times))), 3), want);
    }

    /** "GROUPS of 50 (the last may have less)": ascending bytes have one symbol more than bytes. */
    private static void groupsOfFifty() {
        int[] symbols = {3, 49, 50, 51, 99, 100, 101, 150, 151, 200, 201, 250, 251};
        for (int n : symbols) {
            RotationPress press = packed(1, row(n - 1, 256));
            Due.same("symbols", press.about(2), n);
            Due.same("groups for " + n, press.about(3), (n - 1) / 50 + 1);
            Due.same("each has a table", pieces(press, 4).length, (n - 1) / 50 + 1);
        }
        Due.same("the least: one byte", packed(1, 5).about(2), 2);
        Due.same("has one group", packed(1, 5).about(3), 1);
    }

    /** "2 for less than 200 symbols, 3 for less than 600, 4 for less than 1200, 5 for less than 2400". */
    private static void tablesBySymbols() {
        Due.same("2 symbols", packed(1, 5).about(6), 2);
        Due.same("199 symbols", packed(1, row(198, 256)).about(6), 2);
        Due.same("200 symbols", packed(1, row(199, 256)).about(6), 3);
        for (int[] edge : new int[][] {{599, 3}, {600, 4}, {1199, 4}, {1200, 5}}) {
            Due.same(edge[0] + " symbols", withSymbols(edge[0]).about(6), edge[1]);
        }
    }

    /** A block with so many symbols: bytes without an order have one more than bytes, or nearly so. */
    private static RotationPress withSymbols(int symbols) {
        for (int seed = 0; seed < 2000; seed++) {
            int[] bytes = Due.random(new Random(seed), symbols - 1 + seed % 8, 256);
            RotationPress press = Due.fed(bytes);
            press.pack(9);
            if (press.about(0) == 1 && press.about(2) == symbols) {
                return press;
            }
        }
        Due.same("a block with " + symbols + " symbols was met", 0, 1);
        return new RotationPress();
    }

    /** A block has 2250 bytes at most, so 2251 symbols at most; 6 tables are never due. */
    private static void mostSymbols() {
        RotationPress press = withSymbols(2251);
        Due.same("bytes", press.about(1), 2250);
        Due.same("tables", press.about(6), 5);
        Due.same("groups", press.about(3), 46);
        Due.same("the last group has one symbol, the last one", press.piece(3, 2250), press.about(5) + 1);
        Due.same("and a table", press.piece(4, 45) >= 0 && press.piece(4, 45) < 5 ? 1 : 0, 1);
        Due.same("behind them is none", press.piece(4, 46), NONE);
        Due.same("no symbol behind", press.piece(3, 2251), NONE);
    }

    /**
     * One symbol as often as can be: LAST goes 49, 48 .. 0 and again, so each stands 49 up. The bytes
     * are found by UNROTATED; 50 is a primitive root of 2251, so that goes through all of LAST.
     */
    private static void oneSymbolMostOften() {
        int[] bytes = new int[2250];
        int at = 1;
        for (int i = 0; i < bytes.length; i++) {
            at = at * 50 % 2251;
            bytes[i] = 49 - (at - 1) % 50;
        }
        RotationPress press = packed(9, bytes);
        Due.same("bytes", pieces(press, 0), bytes);
        Due.same("ORIGIN", press.about(4), 0);
        Due.same("how far up", pieces(press, 2), Due.times(49, 2250));
        Due.same("symbols", pieces(press, 3), Due.joined(Due.times(50, 2250), new int[] {51}));
        Due.same("groups", press.about(3), 46);
        Due.same("its length", press.piece(5, 50), 1);
        Due.same("out", Due.out(press), Reference.pack(bytes, 9));
        press.copy();
        Due.same("unpack", press.unpack(2250), 2250);
        Due.same("unpacked", Due.out(press), bytes);
    }

    /** "four times then": on blocks whose tables are others when it is three or five times. */
    private static void fourTimes() {
        int met = 0;
        for (int seed = 0; seed < 200 && met < 5; seed++) {
            int[] bytes = Due.randomRuns(new Random(seed), 2000, 40, 3);
            Reference.Block block = Reference.blocks(bytes, 9).get(0);
            int[] tables = block.groupTables;
            int[][] lengths = block.lengths;
            if (Arrays.equals(tables, tablesAfter(block, 3)) || Arrays.equals(tables, tablesAfter(block, 5))) {
                continue;
            }
            met++;
            RotationPress press = packed(9, Arrays.copyOf(bytes, block.packed.size()));
            Due.same("the tables of the fourth time", pieces(press, 4), tables);
            for (int t = 0; t < lengths.length; t++) {
                Due.same("the codes of the fourth time", pieces(press, 5 + t), lengths[t]);
            }
        }
        Due.same("such blocks were met", met, 5);
    }

    private static int[] tablesAfter(Reference.Block block, int times) {
        Reference.Block other = new Reference.Block();
        other.symbols = block.symbols;
        other.listed = block.listed;
        Reference.code(other, times);
        return other.groupTables;
    }

    /** "each table's code is made of its groups": without one, all weights are 1; "(the first of several)". */
    private static void tableWithoutGroups() {
        RotationPress press = packed(1, 'a');
        // weights 2 1 2: symbols 1 and 0 make 3, with 2 they make 5; and of 1 1 1 symbols 0 and 1 come first
        Due.same("table 0", pieces(press, 5), new int[] {2, 2, 1});
        Due.same("table 1", pieces(press, 6), new int[] {2, 2, 1});
        Due.same("both have the same bits, so it is the first", pieces(press, 4), new int[] {0});
    }

    /** No block: the bytes 82, 80 and 48 + level, eight bits 0, the CHECK of all, which is 0. */
    private static void fileOfNothing() {
        for (int level = 1; level <= 9; level++) {
            RotationPress press = new RotationPress();
            Due.same("pack nothing", press.pack(level), 8);
            Due.same("the file", Due.out(press), new int[] {82, 80, 48 + level, 0, 0, 0, 0, 0});
        }
    }

    /** The least block, bit by bit. */
    private static void fileOfOneByte() {
        String check = Reference.bits(0x19939b6b, 32);
        String table = "00010" + "0" + "0" + "110";
        text("the file of a", bits(packed(1, 'a')),
                "01010010" + "01010000" + "00110001" + "00000001" + check + "0".repeat(16)
                + "0000001000000000" + "0100000000000000" + "010" + "000000000000001" + "0" + table + table
                + "10" + "0" + "00000000" + check + "000000");
    }

    /** "which sixteens of bytes (0 .. 15 first) it has some of; for each of these .. which". */
    private static void fileTellsSixteens() {
        text("0 15 16 255", bits(packed(1, 0, 15, 16, 255)).substring(80, 144),
                Reference.bits(0xc001800180000001L, 64));
        text("0", bits(packed(1, 0)).substring(80, 115), Reference.bits(0x80008000L, 32) + "010");
        text("255", bits(packed(1, 255)).substring(80, 115), Reference.bits(0x00010001L, 32) + "010");
        text("all", bits(packed(2, row(256, 256))).substring(80, 80 + 17 * 16 + 3), "1".repeat(17 * 16) + "011");
    }

    /** "ORIGIN in 16", "T in 3 bits, G in 15". */
    private static void fileTellsOrigin() {
        int[] greatest = row(2250, 200);
        greatest[0] = 255;
        text("2249", bits(packed(9, greatest)).substring(64, 80), Reference.bits(2249, 16));
        RotationPress most = withSymbols(2251);
        text("T and G", bits(most).substring(80 + 17 * 16, 80 + 17 * 16 + 18), "101" + Reference.bits(46, 15));
    }

    /** "bits 0 up to a full byte": seven at most, and none where the byte is full. */
    private static void fileEndsWithAByte() {
        boolean[] met = new boolean[8];
        for (int n = 1; n < 60; n++) {
            RotationPress press = packed(1, row(n, 256));
            String tail = "00000000" + Reference.bits(press.about(7), 32);
            String bits = bits(press);
            for (int behind = 0; behind < 8; behind++) {
                met[behind] |= bits.endsWith(tail + "0".repeat(behind));
            }
            Due.same("what is behind the check", bits.lastIndexOf(tail) + 40 + 7 >= bits.length() ? 1 : 0, 1);
        }
        for (int behind = 0; behind < 8; behind++) {
            Due.same(behind + " bits behind were met", met[behind] ? 1 : 0, 1);
        }
    }

    /** "THE CHECK of a block's bytes (those that were packed)". */
    private static void checkOfPackedBytes() {
        Due.same("0", packed(1, 0).about(7), 0xb1f7404b);
        Due.same("255", packed(1, 255).about(7), 0x000000ff);
        Due.same("four 0", packed(1, Due.times(0, 4)).about(7), 0x38fb2284);
        Due.same("four 255: all bits are 1", packed(1, Due.times(255, 4)).about(7), -1);
        Due.same("four a, not the five bytes that tell them", packed(1, Due.bytes("aaaa")).about(7), 0x881233a6);
        Due.same("255 a", packed(1, Due.times('a', 255)).about(7), 0x8685b518);
        Due.same("123456789", packed(9, Due.bytes("123456789")).about(7), 0xfc891918);
    }

    /** "it is turned round to the left by one bit": the highest bit comes back at the right. */
    private static void checkOfAllTurnsRound() {
        int[] first = apart(250);
        int highest = 0;
        int others = 0;
        for (int b = 0; b < 40; b++) {
            first[0] = 210 + b;
            int one = packed(1, first).about(7);
            int two = packed(1, 'a').about(7);
            Due.same("of a", two, 0x19939b6b);
            RotationPress both = packed(1, Due.joined(first, Due.bytes("a")));
            Due.same("two blocks", both.about(0), 2);
            int all = (one << 1 | (one < 0 ? 1 : 0)) ^ two;
            String bits = bits(both);
            int at = bits.lastIndexOf("00000000" + Reference.bits(all, 32));
            Due.same("the check of all stands at the end", at + 40 + 7 >= bits.length() ? 1 : 0, 1);
            highest += one < 0 ? 1 : 0;
            others += one < 0 ? 0 : 1;
        }
        Due.same("both kinds were met", highest > 0 && others > 0 ? 1 : 0, 1);
    }

    /** Promise 6: each level 1 .. 9 is taken, and stands in the file. */
    private static void levelsTaken() {
        for (int level = 1; level <= 9; level++) {
            RotationPress press = Due.fed(1, 2, 3);
            int size = press.pack(level);
            Due.same("how many bytes the out has", size, press.size());
            Due.same("the level", press.out(2), 48 + level);
        }
    }

    /** "IllegalArgumentException: level is not 1 .. 9 (then the tape stays)." */
    private static void levelsRefused() {
        for (int level : new int[] {0, 10, -1, -9, 11, 49, 57, 257, 256 + 9, LEAST, LEAST + 1, GREATEST - 1, GREATEST}) {
            RotationPress press = packed(3, Due.bytes("before"));
            int[] out = Due.out(press);
            Due.feed(press, 1, 2, 3);
            Due.fails("pack " + level, ARGUMENT, () -> press.pack(level));
            Due.same("the tape stays", Due.tape(press), new int[] {1, 2, 3});
            Due.same("the out stays", Due.out(press), out);
            Due.same("the pieces stay", pieces(press, 0), Due.bytes("before"));
            Due.fails("pack nothing " + level, ARGUMENT, () -> new RotationPress().pack(level));
        }
    }

    /** Promise 12, "below 0 and behind the end": the first and the last of each row. */
    private static void pieceEnds() {
        RotationPress press = packed(1, 'a', 'b');
        int[][] rows = {{'a', 'b'}, {'b', 'a'}, {1, 1}, {2, 2, 3}, {0}, {3, 3, 1, 2}, {2, 2, 2, 2}};
        for (int which = 0; which < rows.length; which++) {
            Due.same("piece " + which, pieces(press, which), rows[which]);
            none("piece", press, which, rows[which].length);
        }
        int[] greatest = row(2250, 199);
        RotationPress most = packed(9, greatest);
        for (int which = 0; which <= 2; which++) {
            Due.same("the last of 2250", most.piece(which, 2249) != NONE ? 1 : 0, 1);
            none("of 2250", most, which, 2250);
        }
        none("symbols of 2250", most, 3, most.about(2));
        none("groups of 2250", most, 4, most.about(3));
        none("lengths of 201 symbols", most, 5, 201);
        Due.same("the last length of 201", most.piece(5, 200) > 0 ? 1 : 0, 1);
        none("lengths of 258 symbols", packed(2, row(256, 256)), 5, 258);
    }

    private static void none(String what, RotationPress press, int which, int end) {
        for (int i : new int[] {-1, -2, LEAST, LEAST + 1, end, end + 1, 2251, 5000, GREATEST - 1, GREATEST}) {
            Due.same(what + " " + which + " " + i, press.piece(which, i), NONE);
        }
    }

    /** "the length of symbol i in table which - 5": a table behind the last one has no symbol. */
    private static void pieceOfTablesThatAreNot() {
        RotationPress[] presses = {
            packed(1, 5), packed(1, row(199, 256)), withSymbols(600), withSymbols(1200),
        };
        for (int k = 0; k < presses.length; k++) {
            RotationPress press = presses[k];
            int tables = k + 2;
            Due.same("tables", press.about(6), tables);
            for (int t = 0; t < 6; t++) {
                Due.same("table " + t + " of " + tables, pieces(press, 5 + t).length, t < tables ? press.about(5) + 2 : 0);
            }
        }
        // tables that an earlier pack() had are not there either
        RotationPress fewer = withSymbols(1200);
        Due.feed(fewer, 5);
        fewer.pack(1);
        for (int which = 7; which <= 10; which++) {
            none("a table of an earlier pack", fewer, which, 0);
        }
    }

    /** "NONE before any, when that had no block, when unpack() came since". */
    private static void pieceNone() {
        noPieces("before any", new RotationPress());
        RotationPress press = packed(1, 1, 2, 3);
        press.pack(1);
        noPieces("no block", press);
        Due.feed(press, 1, 2, 3);
        noPieces("feed is no pack", press);
        press.pack(1);
        Due.same("a block again", press.piece(0, 0), 1);
        press.copy();
        Due.same("copy leaves them", press.piece(0, 0), 1);
        press.unpack(3);
        noPieces("unpack came since", press);
        RotationPress fault = packed(1, 1, 2, 3);
        fault.unpack(0);
        noPieces("an unpack with a fault came since", fault);
        fault.pack(1);
        noPieces("no block, behind that", fault);
        RotationPress refused = packed(1, 1, 2, 3);
        Due.fails("unpack(-1)", ARGUMENT, () -> refused.unpack(-1));
        Due.same("a refused unpack did not come", refused.piece(0, 0), 1);
    }

    private static void noPieces(String what, RotationPress press) {
        for (int which = 0; which <= 10; which++) {
            none(what, press, which, 0);
        }
    }

    /** "Of the block packed last by the latest pack()". */
    private static void pieceOfTheLastBlock() {
        RotationPress press = packed(1, Due.joined(apart(250), new int[] {77, 66}));
        Due.same("the last block's bytes", pieces(press, 0), new int[] {77, 66});
        Due.same("its LAST", pieces(press, 1), new int[] {77, 66});
        Due.same("its symbols", pieces(press, 3), new int[] {2, 2, 3});
        Due.feed(press, 5);
        Due.same("feed leaves them", pieces(press, 0), new int[] {77, 66});
        press.pack(1);
        Due.same("the latest pack's", pieces(press, 0), new int[] {5});
    }

    /** "IllegalArgumentException: which is none of these", whatever i is, and also where there is no block. */
    private static void pieceWhich() {
        RotationPress press = packed(1, 1, 2, 3);
        RotationPress fresh = new RotationPress();
        for (int which : new int[] {-1, 11, -2, 12, 256, LEAST, LEAST + 1, GREATEST - 1, GREATEST}) {
            for (int i : new int[] {0, -1, 1, 5000, LEAST, GREATEST}) {
                Due.fails("piece " + which + " " + i, ARGUMENT, () -> press.piece(which, i));
                Due.fails("piece of nothing " + which + " " + i, ARGUMENT, () -> fresh.piece(which, i));
            }
        }
        Due.same("0 is one of these", press.piece(0, 0), 1);
        Due.same("10 is one of these", press.piece(10, 0), NONE);
    }

    /** Promise 13: "it had in all", "of its last block". */
    private static void aboutInAll() {
        RotationPress press = packed(1, Due.joined(row(250, 256), row(250, 256), new int[] {9, 8}));
        int[] want = {3, 502, 251 + 251 + 3, 6 + 6 + 1, 1, 2, 2};
        for (int what = 0; what < want.length; what++) {
            Due.same("about " + what, press.about(what), want[what]);
        }
        Due.same("its check", press.about(7), Reference.check(new int[] {9, 8}));
        Due.feed(press, 'a');
        press.alter(0, 'a');
        press.end(1);
        Due.same("still three blocks", press.about(0), 3);
        press.copy();
        press.unpack(0);
        Due.same("the latest pack() is the same behind unpack()", press.about(0), 3);
        Due.feed(press, 'a');
        press.pack(2);
        int[] then = {1, 1, 2, 1, 0, 1, 2, 0x19939b6b};
        for (int what = 0; what < then.length; what++) {
            Due.same("about then " + what, press.about(what), then[what]);
        }
    }

    /** "0 before any, and where there was no block". */
    private static void aboutNothing() {
        RotationPress fresh = new RotationPress();
        RotationPress unpacked = Due.unpacked(5, 9);
        RotationPress none = packed(1, Due.joined(row(250, 256), new int[] {9, 8}));
        none.pack(9);
        RotationPress only = new RotationPress();
        only.pack(1);
        for (int what = 0; what <= 7; what++) {
            Due.same("before any " + what, fresh.about(what), 0);
            Due.same("only an unpack " + what, unpacked.about(what), 0);
            Due.same("no block behind some " + what, none.about(what), 0);
            Due.same("no block " + what, only.about(what), 0);
        }
    }

    /** "IllegalArgumentException: what is none of these." */
    private static void aboutWhat() {
        RotationPress press = packed(1, 1, 2, 3);
        RotationPress fresh = new RotationPress();
        for (int what : new int[] {-1, 8, -2, 9, 256, LEAST, LEAST + 1, GREATEST - 1, GREATEST}) {
            Due.fails("about " + what, ARGUMENT, () -> press.about(what));
            Due.fails("about nothing " + what, ARGUMENT, () -> fresh.about(what));
        }
        Due.same("0 is one of these", press.about(0), 1);
        Due.same("7 is one of these", press.about(7), Reference.check(new int[] {1, 2, 3}));
    }
}
