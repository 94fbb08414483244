import java.util.Arrays;
import java.util.Random;

/** Promises 7 and 8: unpacking right files, and each fault with its place, worked out by hand. */
public final class UnpackTest {
    private static final Class<IllegalArgumentException> ARGUMENT = IllegalArgumentException.class;
    /** With one byte in the list: digit 1 is 0, digit 2 is 10, the last symbol 11. */
    private static final int[] ONE = {1, 2, 2};

    public static void main(String[] args) {
        wrongArguments();
        rightFiles();
        firstBytes();
        endingBits();
        eightBits();
        sixteens();
        tablesAndGroups();
        lengths();
        noCode();
        endBeforeSure();
        lastTooLong();
        lastSymbol();
        origins();
        runs();
        limits();
        checks();
        behind();
        firstOfSeveral();
        Due.finish();
    }

    private static void fault(String what, FileMaker file, int number, int bit) {
        fault(what, file.bytes(), 60000, number, bit);
    }

    private static void fault(String what, int[] bytes, int limit, int number, int bit) {
        RotationPress press = Due.fed(Reference.pack(Due.bytes("before"), 1));
        press.unpack(6);
        Due.feed(press, bytes);
        Due.same(what + ": fault", press.unpack(limit), -number);
        Due.same(what + ": place", press.place(), bit);
        Due.same(what + ": nothing out", press.size(), 0);
        Due.same(what + ": the tape is used up", press.length(), 0);
        Due.fails(what + ": out(0)", IndexOutOfBoundsException.class, () -> press.out(0));
    }

    private static void right(String what, FileMaker file, int[] want) {
        RotationPress press = Due.fed(1);
        press.unpack(0);
        press.end(0);
        Due.feed(press, file.bytes());
        Due.same(what, press.unpack(60000), want.length);
        Due.same(what + ": place", press.place(), -1);
        Due.same(what + ": out", Due.out(press), want);
        Due.same(what + ": size", press.size(), want.length);
        Due.same(what + ": the tape is used up", press.length(), 0);
    }

    /** A file whose one block tells these bytes, with a right check of what comes out. */
    private static FileMaker telling(int level, int[] told, int[] out) {
        return FileMaker.at(level).block(told, Reference.check(out), FileMaker.even(told));
    }

    /** The begin of a file up to the tables: one byte in the list, which is 'a'. */
    private static FileMaker upToTables(int groups) {
        return FileMaker.at(1).beginBlock(0, 0).used('a').counts(2, groups).put("0".repeat(groups));
    }

    private static void wrongArguments() {
        RotationPress press = Due.fed(1, 2, 3);
        for (int limit : new int[] {-1, 60001, Integer.MIN_VALUE, Integer.MAX_VALUE}) {
            Due.fails("unpack " + limit, ARGUMENT, () -> press.unpack(limit));
        }
        Due.same("the tape stays", press.length(), 3);
        Due.same("its bytes stay", press.alter(2, 0), 3);
        Due.same("the place stays", press.place(), -1);
        Due.same("60000 may be", press.unpack(60000), -1);
        Due.same("0 may be", press.unpack(0), -2);
    }

    private static void rightFiles() {
        right("no block", FileMaker.at(4).finish(), new int[0]);
        int[] a = {'a'};
        right("one byte", telling(1, a, a).finish(), a);
        // codes that leave gaps, lengths up to 20, six tables of which the last is used
        FileMaker far = FileMaker.at(1).beginBlock(Reference.check(a), 0).used('a').counts(6, 1).put("111110");
        far.tables(5, 20, 1, 20).put(Reference.table(new int[] {20, 19, 18}));
        right("lengths of 20", far.symbols(new int[] {20, 19, 18}, 0, 2).finish(), a);
        // the list may have bytes that do not come
        int[] b = {'b'};
        FileMaker more = FileMaker.at(1).beginBlock(Reference.check(b), 0).used('a', 'b', 'z').counts(2, 1).put("10");
        more.tables(1, 3, 3, 3, 3, 3).tables(1, 3, 3, 2, 2, 2);
        right("bytes that do not come", more.symbols(new int[] {3, 3, 2, 2, 2}, 2, 4).finish(), b);
        // a list of tables goes on: 0, 1, 2 -> 2 0 1 -> 0 2 1 -> 0 2 1
        int[] ab = {'a', 'b', 'a', 'b'};
        int[] first = {1, 3, 3, 2};
        int[] second = {3, 3, 2, 1};
        int[] third = {2, 2, 2, 2};
        Reference.Block alternate = FileMaker.blockOf(repeated(ab, 60));
        FileMaker lists = FileMaker.at(1).beginBlock(Reference.check(repeated(ab, 60)), alternate.origin);
        lists.used('a', 'b').counts(3, 1).put("110").tables(1, first).tables(1, second).tables(1, third);
        right("the third table", lists.symbols(third, alternate.symbols).finish(), repeated(ab, 60));
        severalGroups(first, second, third);
        // two blocks, the second one not at a byte's begin
        int[] cd = Due.bytes("dcdcc");
        FileMaker two = telling(2, a, a).block(cd, Reference.check(cd), FileMaker.even(cd));
        right("two blocks", two.finish(), Due.joined(a, cd));
        // a block's cycle need not go through all of LAST
        int[] aa = {'a', 'a'};
        FileMaker cycles = FileMaker.at(1).beginBlock(Reference.check(aa), 0).used('a', 'b').counts(2, 1).put("0");
        cycles.tables(2, 2, 2, 2, 2).symbols(new int[] {2, 2, 2, 2}, 0, 2, 3);
        right("a short cycle", cycles.finish(), aa);
    }

    private static int[] repeated(int[] row, int times) {
        int[][] rows = new int[times][];
        Arrays.fill(rows, row);
        return Due.joined(rows);
    }

    /** Four groups with tables 2, 0, 0, 1, so that the list's order counts. */
    private static void severalGroups(int[] first, int[] second, int[] third) {
        int[] told = new int[160];
        Random random = new Random(3);
        for (int i = 0; i < told.length; i++) {
            told[i] = i % 3 == 0 ? 'a' : i % 3 == 1 ? 'b' : "ab".charAt(random.nextInt(2));
        }
        Reference.Block block = null;
        for (int n = told.length; n > 0; n--) {
            block = FileMaker.blockOf(Arrays.copyOf(told, n));
            if (block.symbols.length <= 100) {
                break;
            }
        }
        int[] bytes = Reference.row(block.told);
        int groups = (block.symbols.length + 49) / 50;
        FileMaker file = FileMaker.at(1).beginBlock(Reference.check(bytes), block.origin).used(bytes);
        file.counts(3, groups).put(groups == 2 ? "11010" : "110").tables(1, first).tables(1, second).tables(1, third);
        for (int i = 0; i < block.symbols.length; i++) {
            file.symbols(i < 50 ? third : first, block.symbols[i]);
        }
        right("two groups", file.finish(), bytes);
        Due.same("there are two groups", groups, 2);
    }

    private static void firstBytes() {
        int[] file = Reference.pack(Due.bytes("file"), 5);
        for (int b : new int[] {0, 81, 83, 255}) {
            fault("first byte", with(file, 0, b), 9, 1, 0);
        }
        for (int b : new int[] {0, 79, 81, 208}) {
            fault("second byte", with(file, 1, b), 9, 1, 8);
        }
        for (int b : new int[] {0, 5, 47, 48, 58, 255}) {
            fault("third byte", with(file, 2, b), 9, 1, 16);
        }
        fault("only a wrong byte", new int[] {83}, 9, 1, 0);
        fault("only a wrong second byte", new int[] {82, 0}, 9, 1, 8);
        for (int level = 1; level <= 9; level++) {
            right("level " + level, FileMaker.at(level).finish(), new int[0]);
        }
    }

    private static int[] with(int[] file, int at, int b) {
        int[] other = file.clone();
        other[at] = b;
        return other;
    }

    private static void endingBits() {
        Random random = new Random(8);
        int[] bytes = Due.joined(Due.bytes("the bits end, "), Due.random(random, 400, 99));
        int[] file = Reference.pack(bytes, 1);
        for (int n = 0; n < file.length; n++) {
            fault("cut at " + n, Arrays.copyOf(file, n), 60000, 2, 8 * n);
        }
        int[] none = Reference.pack(new int[0], 1);
        for (int n = 0; n < none.length; n++) {
            fault("no block, cut at " + n, Arrays.copyOf(none, n), 0, 2, 8 * n);
        }
    }

    private static void eightBits() {
        for (int eight : new int[] {2, 3, 128, 129, 255}) {
            fault("eight bits " + eight, FileMaker.at(1).put(eight, 8).put(0, 32), 3, 24);
        }
        FileMaker second = telling(1, new int[] {'a'}, new int[] {'a'});
        int at = second.bits.length();
        fault("a second block's eight bits", second.put(7, 8).put(0, 64), 3, at);
    }

    private static void sixteens() {
        fault("none", FileMaker.at(1).beginBlock(0, 0).put(0, 16).put(0, 64), 4, 80);
        fault("none, at the end", FileMaker.at(1).beginBlock(0, 0).put(0, 16), 4, 80);
        fault("the first is empty", FileMaker.at(1).beginBlock(0, 0).put(0xffff, 16).put(0, 16), 4, 96);
        FileMaker third = FileMaker.at(1).beginBlock(0, 0).put(0x8301, 16).put(1, 16).put(0x8000, 16).put(0, 16);
        fault("the third is empty", third.put(255, 64), 4, 128);
        fault("they end", FileMaker.at(1).beginBlock(0, 0).put(0x8301, 16).put(1, 16).put(0, 8), 2, 120);
    }

    private static void tablesAndGroups() {
        for (int tables : new int[] {0, 1, 7}) {
            FileMaker file = FileMaker.at(1).beginBlock(0, 0).used('a').counts(tables, 0);
            fault("tables " + tables, file, 5, file.tablesAt);
            FileMaker cut = FileMaker.at(1).beginBlock(0, 0).used('a').put(tables, 3);
            fault("tables " + tables + " and no more", cut, 5, 112);
        }
        for (int tables = 2; tables <= 6; tables++) {
            FileMaker file = FileMaker.at(1).beginBlock(0, 0).used('a').counts(tables, 0).put(0, 64);
            fault("no group", file, 5, file.groupsAt);
            FileMaker ones = FileMaker.at(1).beginBlock(0, 0).used('a').counts(tables, 3).put("0");
            ones.put("1".repeat(tables)).put(0, 64);
            fault("too many ones", ones, 5, ones.groupAt + 1);
            FileMaker most = FileMaker.at(1).beginBlock(0, 0).used('a').counts(tables, 3).put("0");
            most.put("1".repeat(tables - 1)).put("0").put("1".repeat(tables));
            fault("too many ones behind as many as may be", most, 5, most.groupAt + 1 + tables);
        }
        // with three tables, 130 bits stand before the groups, so six bits fill the byte
        FileMaker sure = FileMaker.at(1).beginBlock(0, 0).used('a').counts(3, 9).put("000111");
        fault("ones end the file when it is sure", sure, 5, 133);
        FileMaker unsure = FileMaker.at(1).beginBlock(0, 0).used('a').counts(3, 9).put("000011");
        fault("ones end the file before it is sure", unsure, 2, 136);
        FileMaker many = FileMaker.at(1).beginBlock(0, 0).used('a').counts(2, 32767).put("0".repeat(32767));
        many.tables(2, ONE).symbols(ONE, 0, 2);
        fault("more groups than can be", many, 10, 24);
        FileMaker manyCut = FileMaker.at(1).beginBlock(0, 0).used('a').counts(2, 32767).put("10".repeat(9000));
        fault("groups that end", manyCut, 2, manyCut.bytes().length * 8);
    }

    private static void lengths() {
        for (int length : new int[] {0, 21, 31}) {
            FileMaker file = upToTables(1).put(length, 5).put(0, 64);
            fault("first length " + length, file, 6, 131);
        }
        FileMaker less = upToTables(1).put(2, 5).put("1100").put("11").put(0, 64);
        fault("down to 0", less, 6, 131 + 5 + 4);
        FileMaker more = upToTables(1).put(19, 5).put("0100").put("10110").put(0, 64);
        fault("up to 21 and back", more, 6, 131 + 5 + 4);
        FileMaker both = upToTables(1).put(20, 5).put("11100").put("0").put("10").put(0, 64);
        fault("up from 20", both, 6, 131 + 5 + 6);
        // 131 + 5 bits fill 17 bytes
        fault("a length's bits end", upToTables(1).put(20, 5), 2, 136);
        fault("a pair's bits end", upToTables(1).put(3, 5).put("0101010" + "1"), 2, 144);
        fault("a pair ends the file", upToTables(1).put(20, 5).put("00" + "1110" + "10"), 6, 142);
        FileMaker full = upToTables(1).tables(1, 1, 1, 1).put(0, 64);
        fault("too short together", full, 6, 131);
        FileMaker little = upToTables(1).tables(1, 1, 1, 20).put(0, 64);
        fault("a little too short together", little, 6, 131);
        FileMaker second = upToTables(1).tables(1, 1, 2, 2);
        int at = second.bits.length();
        fault("the second table too short together", second.tables(1, 2, 1, 1).put(0, 64), 6, at);
        FileMaker wide = FileMaker.at(1).beginBlock(0, 0).used(row(256)).counts(2, 1).put("0");
        fault("258 symbols of length 8", wide.tables(2, Due.times(8, 258)).put(0, 64), 6, wide.lengthsAt);
        FileMaker fits = FileMaker.at(1).beginBlock(0, 0).used(row(254)).counts(2, 1).put("0");
        fits.tables(2, Due.times(8, 256)).symbols(Due.times(8, 256), 255);
        fault("256 symbols of length 8 fit", fits, 9, fits.originAt);
    }

    private static int[] row(int n) {
        int[] bytes = new int[n];
        for (int b = 0; b < n; b++) {
            bytes[b] = b;
        }
        return bytes;
    }

    private static void noCode() {
        FileMaker file = upToTables(1).tables(2, 2, 2, 2).put("00").put("11").put(0, 64);
        fault("no code 11", file, 7, file.symbolsAt + 2);
        FileMaker zero = upToTables(1).tables(2, 3, 3, 3).put("011").put(0, 64);
        fault("no code 011", zero, 7, zero.symbolsAt);
        FileMaker deep = upToTables(1).tables(2, 20, 20, 20).put("0".repeat(18) + "11").put(0, 64);
        fault("the last bit of 20", deep, 7, deep.symbolsAt);
        FileMaker other = FileMaker.at(1).beginBlock(0, 0).used('a').counts(2, 1).put("10");
        other.tables(1, ONE).tables(1, 2, 2, 2).put("11").put(0, 64);
        fault("another table's code is no code", other, 7, other.symbolsAt);
    }

    /** The same bits end the file, once where it is sure that no code comes, once before. */
    private static void endBeforeSure() {
        for (int length = 3; length <= 10; length++) {
            FileMaker file = upToTables(1).tables(2, length, length, length);
            while ((file.bits.length() + 1) % 8 != 0) {
                file.put("0");
            }
            file = whole(file, length);
            if (file == null) {
                continue;
            }
            int begin = file.bits.length();
            fault("a 1 is sure, length " + length, file.put("1"), 7, begin);
            file.bits.setLength(begin);
            fault("a 0 is not sure, length " + length, file.put("0"), 2, begin + 1);
        }
    }

    /** The file with zeros that make whole symbols up to one bit before a byte's end, or null. */
    private static FileMaker whole(FileMaker file, int length) {
        int zeros = file.bits.length() - file.symbolsAt;
        for (int tries = 0; tries < 8; tries++) {
            if (zeros % length == 0) {
                return zeros / length <= 6 ? file : null;
            }
            file.put(0, 8);
            zeros += 8;
        }
        return null;
    }

    private static void lastTooLong() {
        // digits 1 2 4 8 16 32 64 come to 127, then 2 times 128 are too many
        FileMaker digits = upToTables(1).tables(2, ONE).put("0000000").put("10").put(0, 64);
        fault("a digit too many", digits, 8, digits.symbolsAt + 7);
        Reference.Block full = FileMaker.blockOf(Due.times('a', 250));
        FileMaker row = upToTables(1).tables(2, ONE).symbols(ONE, full.symbols);
        row.bits.setLength(row.bits.length() - 2);
        int at = row.bits.length();
        fault("a digit behind 250", row.put("0").put(0, 64), 8, at);
        int[] out = Due.times('a', 50 * 101);
        right("250 zeros", telling(1, Due.times('a', 250), out).finish(), out);
        int[] many = new int[251];
        for (int i = 0; i < many.length; i++) {
            many[i] = i;
        }
        FileMaker other = telling(1, many, many);
        fault("251 bytes", other.finish(), 8, other.symbolsAt + 250 * 8);
        right("251 bytes at level 2", telling(2, many, many).finish(), many);
        int[] most = Arrays.copyOf(many, 250);
        right("250 bytes", telling(1, most, most).finish(), most);
        int[] zeroBehind = Due.joined(most, new int[] {249});
        FileMaker behind = telling(1, zeroBehind, zeroBehind);
        fault("a zero behind 250 bytes", behind.finish(), 8, behind.symbolsAt + 8 * 250);
        int[] alternate = repeated(new int[] {1, 2}, 1125);
        right("2250 bytes at level 9", telling(9, alternate, alternate).finish(), alternate);
        int[] over = Due.joined(alternate, new int[] {1});
        fault("2251 bytes at level 9", telling(9, over, over).finish().bytes(), 60000, 8, placeOf(over));
    }

    /** Where the symbol begins with which LAST has more than 2250 bytes. */
    private static int placeOf(int[] told) {
        Reference.Block block = FileMaker.blockOf(told);
        int count = 0;
        int digit = 1;
        int at = 0;
        while (count <= 2250) {
            int symbol = block.symbols[at++];
            count += symbol <= 1 ? digit << symbol : 1;
            digit = symbol <= 1 ? 2 * digit : 1;
        }
        return telling(9, told, told).symbolsAt + FileMaker.even(told)[0] * (at - 1);
    }

    private static void lastSymbol() {
        FileMaker early = upToTables(2).tables(2, ONE).put("0").put("11").put(0, 64);
        fault("in the first of two groups", early, 10, early.blockAt);
        int[] told = repeated(new int[] {'a', 'b', 'c', 'd', 'e'}, 10);
        Reference.Block block = FileMaker.blockOf(told);
        Due.same("symbols", block.symbols.length < 50 ? 1 : 0, 1);
        int[] many = row(50);
        FileMaker late = FileMaker.at(1).beginBlock(0, 0).used(many).counts(2, 1).put("0").tables(2, Due.times(6, 52));
        for (int n = 0; n < 51; n++) {
            late.symbols(Due.times(6, 52), n < 50 ? 2 : 51);
        }
        fault("behind the only group", late.finish(), 10, late.blockAt);
        FileMaker at50 = FileMaker.at(1).beginBlock(0, 0).used(many).counts(2, 1).put("0").tables(2, Due.times(6, 52));
        for (int n = 0; n < 50; n++) {
            at50.symbols(Due.times(6, 52), n < 49 ? 2 : 51);
        }
        fault("as the fiftieth it is right", at50.finish(), 13, at50.blockAt);
        FileMaker second = FileMaker.at(1).beginBlock(0, 0).used(many).counts(2, 2).put("00").tables(2, Due.times(6, 52));
        for (int n = 0; n < 51; n++) {
            second.symbols(Due.times(6, 52), n < 50 ? 2 : 51);
        }
        fault("as the first of the second group it is right", second.finish(), 13, second.blockAt);
        FileMaker cut = upToTables(2).tables(2, ONE).put("11");
        fault("no byte at all, and in a wrong group", cut, 10, cut.blockAt);
    }

    private static void origins() {
        FileMaker empty = upToTables(1).tables(2, ONE).put("11").put(0, 64);
        fault("LAST is empty", empty, 9, 64);
        for (int origin : new int[] {3, 4, 255, 256, 65535}) {
            FileMaker file = FileMaker.at(1).beginBlock(0, origin).used('a').counts(2, 1).put("0").tables(2, ONE);
            fault("ORIGIN " + origin + " of 3", file.put("0").put("0").put("11").finish(), 9, file.originAt);
        }
        int[] aaa = {'a', 'a', 'a'};
        for (int origin = 0; origin < 3; origin++) {
            FileMaker file = FileMaker.at(1).beginBlock(Reference.check(aaa), origin).used('a').counts(2, 1).put("0");
            right("ORIGIN " + origin + " of 3", file.tables(2, ONE).put("0").put("0").put("11").finish(), aaa);
        }
        FileMaker later = FileMaker.at(1).beginBlock(0, 9).used('a').counts(2, 1).put("0").tables(2, 2, 2, 2);
        fault("a fault in LAST is before it", later.put("11").put(0, 64), 7, later.symbolsAt);
    }

    private static void runs() {
        int[] four = Due.times('a', 4);
        FileMaker cut = telling(1, four, four);
        fault("the bytes end behind four", cut.finish(), 11, 24);
        for (int number : new int[] {252, 253, 255}) {
            int[] told = Due.joined(four, new int[] {number, 'b'});
            FileMaker file = telling(1, told, told);
            fault("number " + number, file.finish(), 11, 24);
        }
        for (int number : new int[] {0, 1, 'a', 250, 251}) {
            int[] told = Due.joined(four, new int[] {number, 'b'});
            int[] out = Due.joined(Due.times('a', 4 + number), new int[] {'b'});
            right("number " + number, telling(1, told, out).finish(), out);
        }
        // a number is none of four equal ones, and behind it the count begins anew
        int[] told = {7, 7, 7, 7, 7, 7, 7, 7, 'x'};
        int[] out = Due.joined(Due.times(7, 14), new int[] {'x'});
        right("a number as its byte", telling(1, told, out).finish(), out);
        int[] again = {9, 9, 9, 9, 0, 9, 9, 9, 9, 1, 9};
        right("four and four", telling(1, again, Due.times(9, 10)).finish(), Due.times(9, 10));
        int[] second = Due.joined(new int[] {'x'}, four);
        FileMaker two = telling(1, new int[] {'a', 'a'}, new int[] {'a', 'a'});
        two.block(second, 0, FileMaker.even(second));
        fault("in the second block", two.finish(), 11, two.blockAt);
        // a block's runs do not go on in the next one
        int[] aa = {'a', 'a'};
        FileMaker apart = telling(1, aa, aa).block(aa, Reference.check(aa), FileMaker.even(aa));
        right("two and two", apart.finish(), four);
    }

    private static void limits() {
        int[] bytes = Due.joined(Due.bytes("limit"), Due.times('t', 300), Due.bytes("end"));
        int[] file = Reference.pack(bytes, 1);
        for (int limit : new int[] {0, 1, 4, 5, 8, 9, 10, 100, 304, 305, 306, bytes.length - 1}) {
            fault("limit " + limit, file, limit, 12, 24);
        }
        for (int limit : new int[] {bytes.length, bytes.length + 1, 60000}) {
            RotationPress press = Due.fed(file);
            Due.same("limit " + limit, press.unpack(limit), bytes.length);
        }
        int[] a = {'a', 'b', 'a'};
        FileMaker two = telling(1, a, a).block(a, Reference.check(a), FileMaker.even(a));
        fault("all blocks count together", two.finish().bytes(), 5, 12, two.blockAt);
        RotationPress press = Due.fed(two.bytes());
        Due.same("and fit together", press.unpack(6), 6);
        FileMaker wrong = FileMaker.at(1).block(a, 77, FileMaker.even(a));
        fault("the limit is before the check", wrong.finish().bytes(), 2, 12, 24);
        int[] most = Due.times('m', 60000);
        Due.same("60000", Due.fed(Reference.pack(most, 9)).unpack(60000), 60000);
        fault("60001", Reference.pack(Due.times('m', 60001), 9), 60000, 12, 24);
    }

    private static void checks() {
        int[] a = Due.bytes("check");
        for (int bit = 0; bit < 32; bit++) {
            FileMaker file = FileMaker.at(1).block(a, Reference.check(a) ^ 1 << bit, FileMaker.even(a));
            fault("a bit of the check", file.finish(), 13, 24);
            FileMaker all = telling(1, a, a).finish();
            int at = all.checkOfAllAt + bit;
            all.bits.setCharAt(at, all.bits.charAt(at) == '0' ? '1' : '0');
            fault("a bit of the check of all", all, 14, all.checkOfAllAt);
        }
        FileMaker second = telling(1, a, a).block(a, 5, FileMaker.even(a));
        fault("the second block's check", second.finish(), 13, second.blockAt);
        FileMaker none = FileMaker.at(1).put(0, 8).put(1, 32);
        fault("of no block it is 0", none, 14, 32);
    }

    private static void behind() {
        FileMaker aligned = FileMaker.at(1).finish();
        right("no bit behind", aligned, new int[0]);
        fault("eight bits behind", aligned.put(0, 8), 15, 64);
        fault("sixteen bits behind", aligned.put(0, 8), 15, 64);
        for (int n = 1; n <= 6; n++) {
            int[] bytes = Due.times('q', n);
            int[] told = n < 4 ? bytes : Due.joined(Due.times('q', 4), new int[] {n - 4});
            FileMaker file = telling(1, told, bytes).finish();
            int end = file.bits.length();
            right("bits behind", file, bytes);
            if (end % 8 != 0) {
                int left = 8 - end % 8;
                fault("the first bit behind is 1", file.put("1"), 15, end);
                file.bits.setLength(end);
                fault("the last bit behind is 1", file.put(1, left), 15, end);
                file.bits.setLength(end);
                fault("a byte more behind", file.put(0, left + 8), 15, end);
            }
        }
    }

    private static void firstOfSeveral() {
        fault("a wrong byte before the end", new int[] {1}, 0, 1, 0);
        int[] a = Due.bytes("several");
        FileMaker file = FileMaker.at(1).block(a, 3, FileMaker.even(a)).put(255, 8);
        fault("the block's check before the eight bits behind it", file, 13, 24);
        FileMaker all = telling(1, a, a).put(0, 8);
        int at = all.bits.length();
        fault("the check of all before what is behind", all.put(9, 32).put(-1, 32), 14, at);
        FileMaker tables = FileMaker.at(1).beginBlock(0, 0).used('a').counts(7, 0);
        fault("T before G", tables, 5, tables.tablesAt);
    }
}
