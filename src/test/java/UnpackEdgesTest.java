import java.util.Arrays;

/** UNPACKING with its faults 1 to 15 and promises 7 and 8, sentence by sentence, at their edges. */
public final class UnpackEdgesTest {
    private static final Class<IllegalArgumentException> ARGUMENT = IllegalArgumentException.class;
    private static final int NONE = RotationPress.NONE;
    private static final int LEAST = Integer.MIN_VALUE;
    private static final int GREATEST = Integer.MAX_VALUE;
    /** With one byte in the list: digit 1 is 0, digit 2 is 10, the last symbol 11. */
    private static final int[] ONE = {1, 2, 2};
    /** With one byte in the list, all before the groups: 3 bytes, 8, 32, 16, 32, 3 and 15 bits. */
    private static final int GROUPS_AT = 130;

    public static void main(String[] args) {
        limitsTaken();
        limitsRefused();
        placeBefore();
        firstThreeBytes();
        bitsEnd();
        bitsEndOfAFullTape();
        neitherZeroNorOne();
        sixteens();
        numberOfTables();
        numberOfGroups();
        ones();
        firstLength();
        lengthsDown();
        lengthsUp();
        lengthsTogether();
        noCode();
        noCodeIsSure();
        lastOfEachLevel();
        lastTooLongByAByte();
        lastTooLongByASymbol();
        digitsTooMany();
        lastSymbolInTheLastGroup();
        lastSymbolInAnother();
        lastSymbolNotThere();
        lastSymbolBeforeOrigin();
        originBelow();
        originOfNothing();
        unrotated();
        endBehindFour();
        numbers();
        numberBeforeLimit();
        limitOfAll();
        limitNought();
        checkOfABlock();
        checkOfAll();
        bitsBehind();
        Due.finish();
    }

    private static RotationPress answered(String what, int[] bytes, int limit, int answer, int place) {
        RotationPress press = Due.fed(bytes);
        Due.same(what + ": answer", press.unpack(limit), answer);
        Due.same(what + ": place", press.place(), place);
        Due.same(what + ": size", press.size(), Math.max(answer, 0));
        Due.same(what + ": length", press.length(), 0);
        return press;
    }

    private static void fault(String what, FileMaker file, int number, int place) {
        answered(what, file.bytes(), 60000, -number, place);
    }

    private static void right(String what, FileMaker file, int... want) {
        Due.same(what, Due.out(answered(what, file.bytes(), 60000, want.length, NONE)), want);
    }

    private static FileMaker telling(int level, int[] told, int... out) {
        return FileMaker.at(level).block(told, Reference.check(out), FileMaker.even(told));
    }

    /** A block's begin up to its groups, with 'a' alone in the list. */
    private static FileMaker upToGroups(int tables, int groups) {
        return FileMaker.at(1).beginBlock(Reference.check(new int[] {'a'}), 0).used('a').counts(tables, groups);
    }

    /** Ends what upToGroups() began: one byte 'a', and the file. */
    private static FileMaker oneByte(FileMaker file, int[] lengths) {
        return file.symbols(lengths, 0, 2).finish();
    }

    /** Promise 7: 0 and 60000 are taken, with nothing, some and 60000 bytes that come out. */
    private static void limitsTaken() {
        int[] none = Reference.pack(new int[0], 1);
        for (int limit : new int[] {0, 1, 59999, 60000}) {
            answered("no byte, limit " + limit, none, limit, 0, NONE);
        }
        int[] most = Reference.pack(Due.times('m', 60000), 9);
        answered("60000 bytes", most, 60000, 60000, NONE);
        answered("60000 bytes, one too many", most, 59999, -12, 24);
        answered("60001 bytes", Reference.pack(Due.times('m', 60001), 9), 60000, -12, 24);
    }

    /** "IllegalArgumentException: limit is not 0 .. 60000 (then the tape stays)." */
    private static void limitsRefused() {
        int[] file = Reference.pack(Due.bytes("stays"), 1);
        for (int limit : new int[] {-1, -2, -60000, 60001, 60002, 65536, LEAST, LEAST + 1, GREATEST - 1, GREATEST}) {
            RotationPress press = Due.fed(1);
            press.unpack(0);
            Due.feed(press, file);
            Due.fails("unpack " + limit, ARGUMENT, () -> press.unpack(limit));
            Due.same("the tape stays", Due.tape(press), file);
            Due.same("the place stays", press.place(), 0);
            Due.same("it can be unpacked", press.unpack(5), 5);
            Due.fails("unpack nothing " + limit, ARGUMENT, () -> new RotationPress().unpack(limit));
        }
    }

    /** Promise 8: "NONE when it told none, and before." */
    private static void placeBefore() {
        RotationPress press = new RotationPress();
        Due.same("before any", press.place(), NONE);
        press.pack(1);
        Due.same("a pack() is none", press.place(), NONE);
        press.unpack(0);
        Due.same("at bit 0", press.place(), 0);
        press.pack(1);
        press.copy();
        Due.same("neither pack() nor copy() tells a fault", press.place(), 0);
        press.unpack(0);
        Due.same("told none", press.place(), NONE);
        press.feed(0x525000ff, 0, 0, 0, 0);
        press.unpack(0);
        Due.same("the latest one", press.place(), 16);
    }

    /** "1 one of the first three bytes is none such": each next to what it must be. */
    private static void firstThreeBytes() {
        int[] file = Reference.pack(new int[0], 1);
        int[] due = {82, 80, 0};
        for (int at = 0; at < 3; at++) {
            for (int b = 0; b <= 255; b++) {
                int[] other = file.clone();
                other[at] = b;
                boolean such = at == 2 ? b >= 49 && b <= 57 : b == due[at];
                answered("byte " + at + " is " + b, other, 0, such ? 0 : -1, such ? NONE : 8 * at);
                answered("and ends", Arrays.copyOf(other, at + 1), 0, such ? -2 : -1, 8 * at + (such ? 8 : 0));
            }
        }
        answered("all three", new int[] {0, 0, 0}, 0, -1, 0);
    }

    /** "2 the bits end in what is there (at the end)": nothing at all, and each byte's end. */
    private static void bitsEnd() {
        answered("nothing at all", new int[0], 0, -2, 0);
        int[] file = Reference.pack(Due.bytes("each end of what is there"), 9);
        for (int n = 0; n < file.length; n++) {
            answered("cut at " + n, Arrays.copyOf(file, n), 60000, -2, 8 * n);
        }
        answered("not cut", file, 60000, 25, NONE);
    }

    /** The tape's last bit is 81919, so a full tape ends at 81920. */
    private static void bitsEndOfAFullTape() {
        FileMaker file = FileMaker.at(9).beginBlock(0, 0).used('a').counts(6, 32767);
        while (file.bits.length() < 81920) {
            file.put("111110");
        }
        file.bits.setLength(81920);
        answered("groups to the end", file.bytes(), 60000, -2, 81920);
        // the last group of six ones begins behind the last zero
        file.bits.setLength(81912);
        int begin = file.bits.lastIndexOf("0") + 1;
        answered("one too many at the end", file.put("11111111").bytes(), 60000, -5, begin);
        int[] aligned = Due.joined(FileMaker.at(1).finish().bytes(), new int[10232]);
        answered("behind the check to the end", aligned, 0, -15, 64);
    }

    /** "3 the eight bits are neither 0 nor 1". */
    private static void neitherZeroNorOne() {
        for (int eight = 0; eight <= 255; eight++) {
            int answer = eight == 0 ? 0 : eight == 1 ? -2 : -3;
            FileMaker file = FileMaker.at(1).put(eight, 8).put(0, 32);
            answered("eight bits " + eight, file.bytes(), 0, answer, eight == 0 ? NONE : eight == 1 ? 64 : 24);
        }
        // where less than eight bits are left they end first, whatever they are
        FileMaker cut = oneByte(upToGroups(2, 1).put("0").tables(2, ONE), ONE);
        cut.bits.setLength(cut.checkOfAllAt - 8);
        int left = 8 - cut.bits.length() % 8;
        Due.same("some bits are left", left < 8 ? 1 : 0, 1);
        int end = cut.bits.length() + left;
        fault("ones and no more", cut.put("1".repeat(left)), 2, end);
        FileMaker second = oneByte(upToGroups(2, 1).put("0").tables(2, ONE), ONE);
        second.bits.setLength(second.checkOfAllAt - 8);
        int at = second.bits.length();
        fault("a second block's", second.put(2, 8).put(0, 32), 3, at);
    }

    /** "4 a sixteen that is told has no byte, or there is none (these 16 bits)." */
    private static void sixteens() {
        fault("there is none", FileMaker.at(1).beginBlock(0, 0).put(0, 16).put(-1, 64), 4, 80);
        for (int high = 0; high < 16; high++) {
            FileMaker file = FileMaker.at(1).beginBlock(0, 0).put(0x8000 >> high, 16).put(0, 16).put(-1, 64);
            fault("the only one, " + high, file, 4, 96);
            FileMaker all = FileMaker.at(1).beginBlock(0, 0).put(0xffff, 16);
            for (int k = 0; k < 16; k++) {
                all.put(k == high ? 0 : 0x8000 >> k, 16);
            }
            fault("one of all, " + high, all.put(-1, 64), 4, 96 + 16 * high);
            for (int low : new int[] {0, 1, 14, 15}) {
                int b = 16 * high + low;
                FileMaker has = FileMaker.at(1).beginBlock(Reference.check(new int[] {b}), 0);
                has.put(0x8000 >> high, 16).put(0x8000 >> low, 16).counts(2, 1).put("0").tables(2, ONE);
                right("one byte, " + b, oneByte(has, ONE), b);
            }
        }
        fault("they end with it", FileMaker.at(1).beginBlock(0, 0).put(1, 16).put(0, 16), 4, 96);
        fault("they end in it", FileMaker.at(1).beginBlock(0, 0).put(1, 16).put(0, 8), 2, 104);
    }

    /** "5 T is not 2 .. 6": at T, before G is looked at. */
    private static void numberOfTables() {
        for (int tables = 0; tables < 8; tables++) {
            FileMaker file = upToGroups(tables, 1).put("0").tables(tables, ONE);
            if (tables >= 2 && tables <= 6) {
                right("T is " + tables, oneByte(file, ONE), 'a');
            } else {
                fault("T is " + tables, oneByte(file, ONE), 5, 112);
                fault("T is " + tables + ", G is 0", upToGroups(tables, 0).put(0, 64), 5, 112);
            }
        }
    }

    /** "G is 0": one is taken, and as many as 15 bits can tell. */
    private static void numberOfGroups() {
        for (int tables = 2; tables <= 6; tables++) {
            fault("G is 0", upToGroups(tables, 0).put(0, 64), 5, 115);
        }
        right("G is 1", oneByte(upToGroups(2, 1).put("0").tables(2, ONE), ONE), 'a');
        for (int groups : new int[] {2, 45, 46, 47, 32767}) {
            FileMaker more = upToGroups(2, groups).put("0".repeat(groups)).tables(2, ONE);
            fault("G is " + groups + ", but one group comes", oneByte(more, ONE), 10, 24);
            FileMaker cut = upToGroups(2, groups).put("10".repeat(groups - 1)).put("11");
            fault("too many ones in group " + groups, cut.put(0, 64), 5, GROUPS_AT + 2 * (groups - 1));
        }
    }

    /** "or more ones than T - 1 (at .. the group's first bit)". */
    private static void ones() {
        for (int tables = 2; tables <= 6; tables++) {
            for (int ones = 0; ones <= 7; ones++) {
                FileMaker file = upToGroups(tables, 1).put("1".repeat(ones)).put("0");
                file.tables(tables, ONE);
                if (ones < tables) {
                    right(ones + " ones of " + tables, oneByte(file, ONE), 'a');
                } else {
                    fault(ones + " ones of " + tables, oneByte(file, ONE), 5, GROUPS_AT);
                }
            }
        }
        // six bits fill the byte
        fault("T - 1 ones and the end", upToGroups(3, 9).put("000011"), 2, 136);
        fault("T ones and the end", upToGroups(3, 9).put("000111"), 5, 133);
    }

    /** "6 a length is not 1 .. 20 (the 5 bits, ..)". */
    private static void firstLength() {
        for (int length = 0; length < 32; length++) {
            FileMaker file = upToGroups(2, 1).put("0");
            int at = file.bits.length();
            boolean taken = length >= 1 && length <= 20;
            // the others are such that the code has room for the first one
            int[] lengths = {length, length == 1 ? 2 : length, 2};
            if (taken) {
                right("first length " + length, oneByte(file.tables(2, lengths), lengths), 'a');
            } else {
                fault("first length " + length, file.put(length, 5).put(0, 64), 6, at);
            }
            FileMaker second = upToGroups(2, 1).put("0").tables(1, ONE);
            int then = second.bits.length();
            if (!taken) {
                fault("first length of the second table " + length, second.put(length, 5).put(0, 64), 6, then);
            }
        }
    }

    /** "or the two that make it so": one less than 1. */
    private static void lengthsDown() {
        for (int first : new int[] {1, 2, 20}) {
            for (int symbol = 0; symbol < 3; symbol++) {
                FileMaker file = upToGroups(2, 1).put("0").put(first, 5).put("0".repeat(symbol));
                file.put("11".repeat(first - 1));
                int at = file.bits.length();
                fault("down to 0 from " + first, file.put("11").put("100").put(0, 64), 6, at);
            }
        }
        int[] least = {20, 1, 20};
        right("down to 1 and up to 20", oneByte(upToGroups(2, 1).put("0").tables(2, least), least), 'a');
        FileMaker back = upToGroups(2, 1).put("0");
        for (int t = 0; t < 2; t++) {
            back.put(2, 5).put("11" + "10" + "0").put("0").put("1011" + "110");
        }
        right("down and up again for one symbol", oneByte(back, new int[] {2, 2, 1}), 'a');
    }

    /** One more than 20 is too many at once, also if it came back then. */
    private static void lengthsUp() {
        for (int first : new int[] {1, 19, 20}) {
            for (int symbol = 0; symbol < 3; symbol++) {
                FileMaker file = upToGroups(2, 1).put("0").put(first, 5).put("0".repeat(symbol));
                file.put("10".repeat(20 - first));
                int at = file.bits.length();
                fault("up to 21 from " + first, file.put("10").put("110").put(0, 64), 6, at);
            }
        }
        int[] greatest = {20, 20, 20};
        right("all of 20", oneByte(upToGroups(2, 1).put("0").tables(2, greatest), greatest), 'a');
    }

    /** "2 to the power of less the length, of all symbols of a table, is together above 1". */
    private static void lengthsTogether() {
        int[][] taken = {{1, 2, 2}, {2, 2, 1}, {1, 2, 20}, {1, 20, 20}, {2, 2, 2}, {20, 20, 20}};
        for (int[] lengths : taken) {
            FileMaker file = upToGroups(2, 1).put("0").tables(2, lengths);
            right("taken " + Arrays.toString(lengths), oneByte(file, lengths), 'a');
        }
        int[][] refused = {{1, 1, 20}, {20, 1, 1}, {1, 1, 1}, {1, 1, 2}, {1, 20, 1}};
        for (int[] lengths : refused) {
            FileMaker file = upToGroups(2, 1).put("0").tables(2, lengths).put(0, 64);
            fault("refused " + Arrays.toString(lengths), file, 6, GROUPS_AT + 1);
            FileMaker second = upToGroups(2, 1).put("0").tables(1, ONE);
            int at = second.bits.length();
            fault("the second table", second.tables(1, lengths).put(0, 64), 6, at);
            // it is so only when all lengths are there: bits that end before, end
            FileMaker cut = upToGroups(2, 1).put("0").tables(1, lengths);
            cut.bits.setLength(cut.bits.length() / 8 * 8 - (cut.bits.length() % 8 == 0 ? 8 : 0));
            fault("it ends before", cut, 2, cut.bits.length());
        }
        // 1, 2, 3 .. 11 and two of 12 come to 1 together, so 245 more are above it
        int[] full = Due.times(19, 258);
        for (int n = 0; n < 11; n++) {
            full[n] = n + 1;
        }
        full[256] = 12;
        full[257] = 12;
        FileMaker above = FileMaker.at(1).beginBlock(0, 0).used(bytes(256)).counts(2, 1).put("0");
        fault("258 symbols above 1", above.tables(2, full).put(0, 64), 6, above.lengthsAt);
        int[] ones = Due.times(1, 258);
        FileMaker most = FileMaker.at(1).beginBlock(0, 0).used(bytes(256)).counts(2, 1).put("0");
        fault("258 symbols of 1", most.tables(2, ones).put(0, 64), 6, most.lengthsAt);
        // 254 of 8 and 4 of 9 come to 1 together; one of 8 more in place of a 9 is above
        int[] whole = Due.joined(Due.times(8, 254), Due.times(9, 4));
        int[] b = {0};
        FileMaker exact = FileMaker.at(2).beginBlock(Reference.check(b), 0).used(bytes(256)).counts(2, 1).put("0");
        right("258 symbols, exactly 1", exact.tables(2, whole).symbols(whole, 0, 257).finish(), b);
        whole[254] = 8;
        FileMaker little = FileMaker.at(2).beginBlock(0, 0).used(bytes(256)).counts(2, 1).put("0");
        fault("258 symbols, a little above 1", little.tables(2, whole).put(0, 64), 6, little.lengthsAt);
    }

    private static int[] bytes(int n) {
        int[] row = new int[n];
        for (int i = 0; i < n; i++) {
            row[i] = i;
        }
        return row;
    }

    /** "7 no code of the table begins with the bits that come (at the first of them)". */
    private static void noCode() {
        for (int length = 2; length <= 20; length++) {
            int[] lengths = {length, length, length};
            // codes 0, 1 and 2 are there, 3 is the first that is not
            FileMaker file = upToGroups(2, 1).put("0").tables(2, lengths);
            int at = file.bits.length();
            fault("code 3 of " + length, file.put(3, length).put(0, 64), 7, at);
            FileMaker last = upToGroups(2, 1).put("0").tables(2, lengths).put(1, length).put(0, length);
            at = last.bits.length();
            fault("all ones of " + length, last.put(-1, length).put(0, 64), 7, at);
            FileMaker there = upToGroups(2, 1).put("0").tables(2, lengths);
            right("code 2 of " + length, there.put(0, length).put(2, length).finish(), 'a');
        }
        FileMaker whole = upToGroups(2, 1).put("0").tables(2, ONE);
        right("a whole code has all bits", whole.put("0").put("11").finish(), 'a');
    }

    /** "where they end before that is sure, it is 2": at each bit of the first code that is not there. */
    private static void noCodeIsSure() {
        for (int length = 2; length <= 20; length++) {
            boolean[] met = new boolean[length + 1];
            for (int shift = 0; shift < 20; shift++) {
                String begin = upToSymbols(length, shift % 10).put(0, length * (shift / 10)).bits.toString();
                for (int left = 8 - begin.length() % 8; left <= length; left += 8) {
                    endsInACode(begin, length, left);
                    met[left] = true;
                }
            }
            for (int left = 1; left <= length; left++) {
                Due.same("the end behind " + left + " bits of " + length + " was met", met[left] ? 1 : 0, 1);
            }
        }
    }

    /** Codes 0, 1 and 2 of this length are there, and the symbols begin so many bits later, 0 .. 9. */
    private static FileMaker upToSymbols(int length, int later) {
        int downAndUp = later / 6;
        FileMaker file = upToGroups(6, 1).put("1".repeat(later - 4 * downAndUp) + "0");
        return file.put(length, 5).put("1110".repeat(downAndUp) + "000").tables(5, length, length, length);
    }

    private static void endsInACode(String begin, int length, int left) {
        int at = begin.length();
        String what = left + " bits of " + length + " behind " + at;
        // code 3 begins as code 2 does, so only its last bit tells
        boolean sure = left == length;
        FileMaker three = new FileMaker().put(begin).put(3 >> Math.min(2, length - left), left);
        fault("code 3, " + what, three, sure ? 7 : 2, sure ? at : at + left);
        // a first bit 1 tells, but for codes of two bits, where 2 is 10
        boolean soon = length > 2 || left > 1;
        FileMaker ones = new FileMaker().put(begin).put("1".repeat(left));
        fault("ones, " + what, ones, soon ? 7 : 2, soon ? at : at + left);
        fault("zeros, " + what, new FileMaker().put(begin).put("0".repeat(left)), 2, at + left);
    }

    /** "8 LAST has more than 250 times the level bytes": each level's greatest is taken. */
    private static void lastOfEachLevel() {
        for (int level = 1; level <= 9; level++) {
            int most = 250 * level;
            // 'a' tells its own number too: each five of them are 4 and 97 bytes
            int[] out = Due.times('a', most / 5 * 101);
            FileMaker file = zeros(level, most, Reference.check(out));
            right("as many as may be, level " + level, file.put("11").finish(), out);
            FileMaker over = zeros(level, most + 1, 0);
            String digits = over.bits.substring(over.symbolsAt);
            int lastDigit = digits.endsWith("10") ? 2 : 1;
            fault("one more, level " + level, over.put("11").put(0, 64), 8, over.symbolsAt + digits.length() - lastDigit);
            if (level < 9) {
                // the same file is right with the next level
                int[] next = Due.joined(out, Due.times('a', 1));
                FileMaker higher = zeros(level + 1, most + 1, Reference.check(next));
                right("one more, level " + (level + 1), higher.put("11").finish(), next);
            }
        }
    }

    /** A block whose LAST is so many 'a', up to before the last symbol. */
    private static FileMaker zeros(int level, int count, int check) {
        FileMaker file = FileMaker.at(level).beginBlock(check, 0).used('a').counts(2, 1).put("0").tables(2, ONE);
        for (int left = count; left > 0; left = (left - 1) / 2) {
            file.put(left % 2 == 1 ? "0" : "10");
        }
        return file;
    }

    /** "(the symbol with which it would have)": a byte that is no zero. */
    private static void lastTooLongByAByte() {
        int[] two = {2, 2, 2, 2};
        for (int level : new int[] {1, 9}) {
            int most = 250 * level;
            for (int before : new int[] {most - 1, most}) {
                FileMaker file = FileMaker.at(level).beginBlock(0, 0).used('a', 'b').counts(2, 1).put("0").tables(2, two);
                for (int left = before; left > 0; left = (left - 1) / 2) {
                    file.put(left % 2 == 1 ? "00" : "01");
                }
                int at = file.bits.length();
                file.put("10").put("11").finish();
                fault("a byte behind " + before, file, before < most ? 13 : 8, before < most ? 24 : at);
            }
        }
    }

    /** The greatest block told by 2250 symbols: one more is too many, where its group is there. */
    private static void lastTooLongByASymbol() {
        int[] two = {2, 2, 2, 2};
        for (int groups : new int[] {45, 46, 47, 32767}) {
            FileMaker file = FileMaker.at(9).beginBlock(0, 0).used('a', 'b').counts(2, groups).put("0".repeat(groups));
            file.tables(2, two).put("10".repeat(2251)).put("11").finish();
            boolean there = groups > 45;
            fault("2251 symbols in " + groups + " groups", file, there ? 8 : 10, there ? file.symbolsAt + 4500 : 24);
        }
    }

    /** "of a row of zeros the digit with which those told so far are too many": also if more come. */
    private static void digitsTooMany() {
        FileMaker ones = upToGroups(2, 1).put("0").tables(2, ONE);
        // 1 2 4 8 16 32 64 are 127, and 128 more are too many
        fault("digits 1", ones.put("0".repeat(40)).put("11").finish(), 8, ones.symbolsAt + 7);
        FileMaker twos = upToGroups(2, 1).put("0").tables(2, ONE);
        // 2 4 8 16 32 64 are 126, and with 128 they are 254
        fault("digits 2", twos.put("10".repeat(45)).put("11").finish(), 8, twos.symbolsAt + 12);
        FileMaker level9 = FileMaker.at(9).beginBlock(0, 0).used('a').counts(2, 1).put("0").tables(2, ONE);
        // up to 1024 they are 2047, and 2048 more are too many
        fault("digits 1 at level 9", level9.put("0".repeat(49)).put("11").finish(), 8, level9.symbolsAt + 11);
        // a row of zeros behind others counts with them: 2 bytes, and 1 + 2 + 4 .. + 64 + 2 * 128
        int[] two = {2, 2, 2, 2};
        FileMaker behind = FileMaker.at(1).beginBlock(0, 0).used('a', 'b').counts(2, 1).put("0").tables(2, two);
        behind.put("10").put("10").put("00".repeat(6)).put("00".repeat(9)).put("11").finish();
        fault("zeros behind others", behind, 8, behind.symbolsAt + 4 + 14);
    }

    /** "10 the last symbol comes in another group than the last": in the last it may stand anywhere. */
    private static void lastSymbolInTheLastGroup() {
        for (int groups = 1; groups <= 3; groups++) {
            for (int behind : new int[] {0, 1, 48, 49}) {
                int count = 50 * (groups - 1) + behind;
                if (count > 0) {
                    right("symbol " + count + " of " + groups + " groups", swaps(groups, count, true), unswapped(count));
                }
            }
        }
    }

    private static void lastSymbolInAnother() {
        for (int groups = 2; groups <= 3; groups++) {
            for (int at : new int[] {0, 1, 49, 50 * (groups - 1) - 1}) {
                fault("symbol " + at + " of " + groups + " groups", swaps(groups, at, true), 10, 24);
            }
        }
    }

    /** "or does not come in it": behind its fiftieth symbol nothing is read. */
    private static void lastSymbolNotThere() {
        for (int groups = 1; groups <= 3; groups++) {
            fault("not in " + groups, swaps(groups, 50 * groups, false), 10, 24);
            fault("behind " + groups, swaps(groups, 50 * groups, true), 10, 24);
        }
        // the bits may end with the fiftieth symbol, for no more are asked for
        boolean met = false;
        for (int ones = 0; ones < 6; ones++) {
            FileMaker file = FileMaker.at(1).beginBlock(0, 0).used('a', 'b').counts(6, 1).put("1".repeat(ones) + "0");
            file.tables(6, 2, 2, 2, 2).put("10".repeat(50));
            met |= file.bits.length() % 8 == 0;
            fault("the bits end behind the fiftieth", file, 10, 24);
        }
        Due.same("the end with the fiftieth was met", met ? 1 : 0, 1);
    }

    /** A block of so many symbols 2, each of which tells the other one of a and b. */
    private static FileMaker swaps(int groups, int count, boolean ends) {
        int[] two = {2, 2, 2, 2};
        int check = Reference.check(unswapped(count));
        FileMaker file = FileMaker.at(1).beginBlock(check, 0).used('a', 'b').counts(2, groups).put("0".repeat(groups));
        file.tables(2, two).put("10".repeat(count));
        return (ends ? file.put("11") : file).finish();
    }

    /** What comes out of LAST b a b a .. with ORIGIN 0, by the document's own words. */
    private static int[] unswapped(int count) {
        int[] last = new int[count];
        for (int i = 0; i < count; i++) {
            last[i] = i % 2 == 0 ? 'b' : 'a';
        }
        int zeros = count / 2;
        int[] told = new int[count];
        int at = 0;
        for (int i = 0; i < count; i++) {
            at = at < zeros ? 2 * at + 1 : 2 * (at - zeros);
            told[i] = last[at];
        }
        return untold(told);
    }

    private static int[] untold(int[] told) {
        int[] out = {};
        int equal = 0;
        for (int i = 0; i < told.length; i++) {
            if (equal == 4) {
                out = Due.joined(out, Due.times(told[i - 1], told[i]));
                equal = 0;
            } else {
                equal = equal > 0 && told[i] == told[i - 1] ? equal + 1 : 1;
                out = Due.joined(out, new int[] {told[i]});
            }
        }
        return out;
    }

    /** 10 stands before 9: where both are so, 10 is told. */
    private static void lastSymbolBeforeOrigin() {
        FileMaker early = FileMaker.at(1).beginBlock(0, 65535).used('a').counts(2, 2).put("00").tables(2, ONE);
        fault("the last symbol in another group, ORIGIN too great", early.put("0").put("11").finish(), 10, 24);
        FileMaker alone = FileMaker.at(1).beginBlock(0, 65535).used('a').counts(2, 1).put("0").tables(2, ONE);
        fault("ORIGIN too great", alone.put("0").put("11").finish(), 9, 64);
        FileMaker cut = FileMaker.at(1).beginBlock(0, 65535).used('a').counts(2, 1).put("0").tables(2, ONE);
        cut.bits.setLength(144);
        fault("looked at when LAST is told, not before", cut, 2, 144);
    }

    /** "9 ORIGIN is not below how many bytes LAST has (at ORIGIN ..)". */
    private static void originBelow() {
        for (int level : new int[] {1, 9}) {
            for (int count : new int[] {1, 2, 3, 249, 250, 250 * level}) {
                for (int origin : new int[] {0, count - 1, count, count + 1, 32767, 32768, 65535}) {
                    FileMaker file = zeros(level, count, Reference.check(untold(Due.times('a', count))));
                    file.bits.replace(64, 80, Reference.bits(origin, 16));
                    if (count % 5 == 4) {
                        fault("ORIGIN " + origin + " of " + count, file.put("11").finish(), origin < count ? 11 : 9,
                                origin < count ? 24 : 64);
                    } else if (origin < count) {
                        right("ORIGIN " + origin + " of " + count, file.put("11").finish(), untold(Due.times('a', count)));
                    } else {
                        fault("ORIGIN " + origin + " of " + count, file.put("11").finish(), 9, 64);
                    }
                }
            }
        }
        FileMaker second = telling(1, new int[] {'a'}, 'a').beginBlock(0, 1).used('a').counts(2, 1).put("0");
        second.tables(2, ONE).put("0").put("11").finish();
        fault("the second block's ORIGIN", second, 9, second.originAt);
    }

    /** LAST may have no byte: then no ORIGIN is below. */
    private static void originOfNothing() {
        for (int origin : new int[] {0, 1, 65535}) {
            FileMaker file = FileMaker.at(1).beginBlock(0, origin).used('a').counts(2, 1).put("0").tables(2, ONE);
            fault("ORIGIN " + origin + " of nothing", file.put("11").finish(), 9, 64);
        }
    }

    /** "the block's bytes are those of LAST at N(ORIGIN), N(N(ORIGIN)) and so on, as many as there are". */
    private static void unrotated() {
        // LAST is b a: sorted a b, N is 1 0
        for (int origin = 0; origin < 2; origin++) {
            int[] out = origin == 0 ? Due.bytes("ab") : Due.bytes("ba");
            FileMaker file = FileMaker.at(1).beginBlock(Reference.check(out), origin).used('a', 'b').counts(2, 1).put("0");
            right("b a from " + origin, file.tables(2, 2, 2, 2, 2).put("10" + "10" + "11").finish(), out);
        }
        // LAST is a b: N is 0 1, so each place leads to itself
        for (int origin = 0; origin < 2; origin++) {
            int[] out = Due.times("ab".charAt(origin), 2);
            FileMaker file = FileMaker.at(1).beginBlock(Reference.check(out), origin).used('a', 'b').counts(2, 1).put("0");
            right("a b from " + origin, file.tables(2, 2, 2, 2, 2).put("00" + "10" + "11").finish(), out);
        }
        // bytes without a sign: LAST is 255 0, sorted 0 255
        int[] ends = {0, 255};
        FileMaker file = FileMaker.at(1).beginBlock(Reference.check(ends), 0).used(ends).counts(2, 1).put("0");
        right("255 0", file.tables(2, 2, 2, 2, 2).put("10" + "10" + "11").finish(), ends);
    }

    /** "11 the bytes end behind four equal ones (before the number)". */
    private static void endBehindFour() {
        for (int n = 1; n <= 20; n++) {
            int[] told = Due.times(0, n);
            int[] out = Due.times(0, n - n / 5);
            FileMaker file = telling(1, told, out).finish();
            if (n % 5 == 4) {
                fault(n + " zeros end behind four", file, 11, 24);
            } else {
                right(n + " zeros", file, out);
            }
        }
        int[] xaaaa = Due.bytes("xaaaa");
        fault("others before them", telling(1, xaaaa, xaaaa).finish(), 11, 24);
        int[] aaaxa = Due.bytes("aaaxa");
        right("three and one are not four", telling(1, aaaxa, aaaxa).finish(), aaaxa);
        FileMaker two = telling(1, Due.bytes("b"), 'b').block(xaaaa, Reference.check(xaaaa), FileMaker.even(xaaaa));
        fault("in the second block", two.finish(), 11, two.blockAt);
        FileMaker next = telling(1, Due.bytes("aaaab"), Due.times('a', 4 + 'b'));
        next.block(Due.bytes("aa"), Reference.check(Due.bytes("aa")), FileMaker.even(Due.bytes("aa")));
        right("a run may go on in the next block", next.finish(), Due.times('a', 4 + 'b' + 2));
    }

    /** "or a number is above 251". */
    private static void numbers() {
        for (int number = 0; number <= 255; number++) {
            int[] told = Due.joined(Due.times(7, 4), new int[] {number});
            int[] out = Due.times(7, 4 + number);
            FileMaker file = telling(1, told, out).finish();
            if (number <= 251) {
                right("number " + number, file, out);
            } else {
                fault("number " + number, file, 11, 24);
            }
        }
        int[] bytes = {7, 7, 7, 255, 7, 7, 7, 252};
        right("behind three it is no number", telling(1, bytes, bytes).finish(), bytes);
    }

    /** Faults 11 and 12 of one block: the one that comes first, byte by byte. */
    private static void numberBeforeLimit() {
        int[] told = {7, 7, 7, 7, 252};
        int[] file = telling(1, told, 7).finish().bytes();
        for (int limit = 0; limit < 8; limit++) {
            answered("a number above 251, limit " + limit, file, limit, limit < 4 ? -12 : -11, 24);
        }
        int[] cut = telling(1, Due.times(7, 4), 7).finish().bytes();
        for (int limit = 0; limit < 8; limit++) {
            answered("an end behind four, limit " + limit, cut, limit, limit < 4 ? -12 : -11, 24);
        }
    }

    /** "12 more bytes come out than the limit": of all blocks together, and with each number. */
    private static void limitOfAll() {
        int[] told = {7, 7, 7, 7, 3, 8};
        int[] out = {7, 7, 7, 7, 7, 7, 7, 8};
        int[] one = telling(1, told, out).finish().bytes();
        FileMaker two = telling(1, told, out).block(told, Reference.check(out), FileMaker.even(told));
        int second = two.blockAt;
        int[] both = two.finish().bytes();
        for (int limit = 0; limit <= 17; limit++) {
            answered("one block, limit " + limit, one, limit, limit < 8 ? -12 : 8, limit < 8 ? 24 : NONE);
            answered("two blocks, limit " + limit, both, limit, limit < 16 ? -12 : 16,
                    limit < 8 ? 24 : limit < 16 ? second : NONE);
        }
        // the check is looked at when all bytes have come out
        int[] wrong = FileMaker.at(1).block(told, 0, FileMaker.even(told)).finish().bytes();
        answered("the limit before the check", wrong, 7, -12, 24);
        answered("the check", wrong, 8, -13, 24);
    }

    /** Limit 0 lets nothing out, and a file without a block has nothing. */
    private static void limitNought() {
        answered("a byte", telling(1, new int[] {5}, 5).finish().bytes(), 0, -12, 24);
        answered("a byte, limit 1", telling(1, new int[] {5}, 5).finish().bytes(), 1, 1, NONE);
        answered("no block", FileMaker.at(9).finish().bytes(), 0, 0, NONE);
        int[] number0 = {7, 7, 7, 7, 0};
        answered("number 0 lets no more out", telling(1, number0, 7, 7, 7, 7).finish().bytes(), 4, 4, NONE);
    }

    /** "13 the block's check is another one." */
    private static void checkOfABlock() {
        for (int bit = 0; bit < 32; bit++) {
            FileMaker file = FileMaker.at(1).block(new int[] {'a'}, 0x19939b6b ^ 1 << bit, ONE).finish();
            fault("another bit " + bit, file, 13, 24);
        }
        right("its check", FileMaker.at(1).block(new int[] {'a'}, 0x19939b6b, ONE).finish(), 'a');
        int[] told = {'a', 'a', 'a', 'a', 0};
        right("of what comes out", FileMaker.at(1).block(told, 0x881233a6, FileMaker.even(told)).finish(), Due.times('a', 4));
        fault("not of what tells it", FileMaker.at(1).block(told, Reference.check(told), FileMaker.even(told)).finish(), 13, 24);
        int[] most = Due.times(255, 4);
        int[] tells = {255, 255, 255, 255, 0};
        right("a check of ones", FileMaker.at(1).block(tells, -1, FileMaker.even(tells)).finish(), most);
    }

    /** "14 the check of all is (at its 32 bits)": 0 without a block, turned round for each. */
    private static void checkOfAll() {
        for (int bit = 0; bit < 32; bit++) {
            fault("no block, bit " + bit, FileMaker.at(1).put(0, 8).put(1L << bit, 32), 14, 32);
        }
        // the check of 0 has the highest bit: it comes back at the right
        int zero = 0xb1f7404b;
        int a = 0x19939b6b;
        int turned = 0x63ee8097;
        FileMaker two = FileMaker.at(1).block(new int[] {0}, zero, ONE).block(new int[] {'a'}, a, ONE).put(0, 8);
        int at = two.bits.length();
        right("turned round", two.put(turned ^ a, 32), 0, 'a');
        two.bits.setLength(at);
        fault("shifted only", two.put((turned - 1) ^ a, 32), 14, at);
        two.bits.setLength(at);
        fault("not turned", two.put(zero ^ a, 32), 14, at);
        FileMaker other = FileMaker.at(1).block(new int[] {'a'}, a, ONE).block(new int[] {0}, zero, ONE).put(0, 8);
        right("a first", other.put(a << 1 ^ zero, 32), 'a', 0);
    }

    /** "15 a bit behind it is 1, or there are eight or more (at the first bit behind it)." */
    private static void bitsBehind() {
        boolean[] met = new boolean[8];
        for (int ones = 0; ones < 6; ones++) {
            for (int length = 2; length < 10; length++) {
                int[] lengths = {length, length, length - 1};
                FileMaker file = oneByte(upToGroups(6, 1).put("1".repeat(ones) + "0").tables(6, lengths), lengths);
                int end = file.bits.length();
                int left = (8 - end % 8) % 8;
                met[left] = true;
                right(left + " zeros behind", file, 'a');
                for (int bit = 0; bit < left; bit++) {
                    file.put(1L << bit, left);
                    fault("a one among " + left, file, 15, end);
                    file.bits.setLength(end);
                }
                fault("a byte more behind " + left, file.put(0, left + 8), 15, end);
                file.bits.setLength(end);
                fault("a one in a byte more", file.put(1, left + 8), 15, end);
            }
        }
        for (int left = 0; left < 8; left++) {
            Due.same(left + " bits behind were met", met[left] ? 1 : 0, 1);
        }
        FileMaker aligned = FileMaker.at(1).finish();
        fault("eight zeros", aligned.put(0, 8), 15, 64);
        // the check of all is looked at before
        FileMaker both = FileMaker.at(1).put(0, 8).put(1, 32).put(255, 8);
        fault("14 before 15", both, 14, 32);
    }
}
