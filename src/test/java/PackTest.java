import java.util.Arrays;
import java.util.List;
import java.util.Random;

/** Promises 6, 10 to 13: what pack() makes, its pieces, and what is told about it. */
public final class PackTest {
    private static final Class<IllegalArgumentException> ARGUMENT = IllegalArgumentException.class;

    public static void main(String[] args) {
        wrongArguments();
        known();
        cutRuns();
        blockEdges();
        equalRotations();
        tableEdges();
        lastPackCounts();
        packAfterPack();
        random();
        fullTapes();
        Due.finish();
    }

    private static void wrongArguments() {
        RotationPress press = Due.fed(Due.bytes("stays"));
        for (int level : new int[] {0, 10, -1, Integer.MIN_VALUE, Integer.MAX_VALUE}) {
            Due.fails("pack " + level, ARGUMENT, () -> press.pack(level));
        }
        Due.same("the tape stays", press.length(), 5);
        Due.same("nothing is out", press.size(), 0);
        press.pack(1);
        int size = press.size();
        Due.feed(press, 1, 2);
        Due.fails("pack(0)", ARGUMENT, () -> press.pack(0));
        Due.fails("unpack(-1)", ARGUMENT, () -> press.unpack(-1));
        Due.same("the out stays", press.size(), size);
        Due.same("the pieces stay", press.piece(0, 4), 's');
        for (int wrong : new int[] {-1, 11, Integer.MIN_VALUE, Integer.MAX_VALUE}) {
            Due.fails("piece " + wrong, ARGUMENT, () -> press.piece(wrong, 0));
            Due.fails("piece " + wrong + " behind", ARGUMENT, () -> press.piece(wrong, -1));
        }
        for (int wrong : new int[] {-1, 8, Integer.MIN_VALUE, Integer.MAX_VALUE}) {
            Due.fails("about " + wrong, ARGUMENT, () -> press.about(wrong));
        }
        for (int which = 0; which <= 10; which++) {
            Due.same("piece below 0", press.piece(which, -1), -1);
            Due.same("piece far below 0", press.piece(which, Integer.MIN_VALUE), -1);
            Due.same("piece far behind", press.piece(which, Integer.MAX_VALUE), -1);
        }
        RotationPress fresh = new RotationPress();
        Due.fails("piece(11, 0) of a new object", ARGUMENT, () -> fresh.piece(11, 0));
        Due.fails("about(8) of a new object", ARGUMENT, () -> fresh.about(8));
    }

    /** Worked out by hand, not by the reference. */
    private static void known() {
        RotationPress press = new RotationPress();
        Due.same("pack nothing", press.pack(9), 8);
        Due.same("nothing packed", Due.out(press), new int[] {82, 80, 57, 0, 0, 0, 0, 0});
        Due.same("no block", press.piece(0, 0), -1);
        Due.feed(press, Due.bytes("banana"));
        press.pack(1);
        // abanan anaban ananab banana nabana nanaba
        int[] last = Due.bytes("nnbaaa");
        int[] ups = {2, 0, 2, 2, 0, 0};
        int[] symbols = {3, 0, 3, 3, 1, 4};
        Due.same("ORIGIN", press.about(4), 3);
        Due.same("listed", press.about(5), 3);
        Due.same("symbols", press.about(2), 6);
        for (int i = 0; i < 6; i++) {
            Due.same("told " + i, press.piece(0, i), "banana".charAt(i));
            Due.same("LAST " + i, press.piece(1, i), last[i]);
            Due.same("up " + i, press.piece(2, i), ups[i]);
            Due.same("symbol " + i, press.piece(3, i), symbols[i]);
        }
        // weights 2 2 1 4 2: symbols 2 and 0 make 3, 1 and 4 make 4, the first sum and 3 make 7
        int[] lengths = {3, 2, 3, 2, 2};
        for (int i = 0; i < 5; i++) {
            Due.same("length " + i, press.piece(5, i), lengths[i]);
        }
        Due.same("the usual text", checkOf(Due.bytes("123456789")), 0xfc891918);
    }

    private static int checkOf(int[] bytes) {
        RotationPress press = Due.fed(bytes);
        press.pack(5);
        return press.about(7);
    }

    private static void cutRuns() {
        for (int n : new int[] {1, 2, 3, 4, 5, 8, 254, 255, 256, 257, 258, 259, 260, 510, 511, 514, 765, 1020, 1024}) {
            for (int b : new int[] {0, 1, 97, 251, 255}) {
                compare(Due.times(b, n), 1);
                compare(Due.joined(new int[] {n & 255}, Due.times(b, n), new int[] {(n - 4) & 255, 3, 3, 3}), 1);
            }
        }
        RotationPress press = Due.fed(Due.times(7, 259));
        press.pack(1);
        int[] told = {7, 7, 7, 7, 251, 7, 7, 7, 7, 0};
        for (int i = 0; i <= 10; i++) {
            Due.same("told " + i, press.piece(0, i), i < 10 ? told[i] : -1);
        }
    }

    /** A run that does not fit whole begins another block, so a block may stay shorter. */
    private static void blockEdges() {
        Random random = new Random(5);
        for (int n = 244; n <= 253; n++) {
            int[] apart = new int[n];
            for (int i = 0; i < n; i++) {
                apart[i] = i % 200;
            }
            for (int run = 1; run <= 6; run++) {
                int[] bytes = Due.joined(apart, Due.times(255, run), new int[] {1, 2, 3});
                compare(bytes, 1);
                RotationPress press = Due.fed(bytes);
                press.pack(1);
                int needed = run < 4 ? run : 5;
                Due.same("blocks of " + n + " and " + run, press.about(0),
                        n > 250 || n + needed + 3 > 250 ? 2 : 1);
            }
        }
        for (int level = 1; level <= 9; level++) {
            for (int more = -1; more <= 1; more++) {
                compare(Due.random(random, 250 * level + more, 256), level);
                compare(Due.random(random, 500 * level + more, 256), level);
            }
        }
        RotationPress press = Due.fed(Due.random(random, 2000, 256));
        press.pack(1);
        Due.same("random blocks", press.about(0) >= 8 ? 1 : 0, 1);
    }

    private static void equalRotations() {
        for (String part : List.of("ab", "ba", "aab", "abcabd", "zyx", "aabb", "abababac")) {
            for (int times = 1; times <= 40; times += 3) {
                compare(Due.bytes(part.repeat(times)), 1);
            }
        }
        compare(Due.bytes("ab".repeat(1125)), 9);
        compare(Due.bytes("ab".repeat(1124) + "b"), 9);
        compare(Due.bytes("abc".repeat(750)), 9);
        RotationPress press = Due.fed(Due.bytes("ab".repeat(50)));
        press.pack(1);
        Due.same("of equal rotations the block's own is the first", press.about(4), 0);
        press = Due.fed(Due.bytes("ba".repeat(50)));
        press.pack(1);
        Due.same("and behind the smaller ones", press.about(4), 50);
    }

    /** Numbers of symbols at which the number of tables changes. */
    private static void tableEdges() {
        int[] edges = {199, 200, 599, 600, 1199, 1200};
        int[] tables = {2, 3, 3, 4, 4, 5};
        for (int k = 0; k < edges.length; k++) {
            int n = edges[k];
            boolean found = false;
            for (int bytes = n - 1; bytes < n + 60 && !found; bytes++) {
                Random random = new Random(bytes);
                int[] row = Due.random(random, bytes, 256);
                RotationPress press = Due.fed(row);
                press.pack(9);
                if (press.about(2) == n) {
                    found = true;
                    Due.same("tables for " + n, press.about(6), tables[k]);
                    Due.same("groups for " + n, press.about(3), (n + 49) / 50);
                    compare(row, 9);
                }
            }
            Due.same("symbols " + n + " were met", found ? 1 : 0, 1);
        }
    }

    private static void lastPackCounts() {
        RotationPress press = Due.fed(Due.bytes("first"));
        press.pack(1);
        int check = press.about(7);
        press.copy();
        Due.same("unpack", press.unpack(100), 5);
        for (int which = 0; which <= 10; which++) {
            Due.same("no piece behind unpack", press.piece(which, 0), -1);
        }
        Due.same("blocks are told still", press.about(0), 1);
        Due.same("and the check", press.about(7), check);
        Due.feed(press, Due.bytes("other"));
        press.pack(2);
        Due.same("pieces again", press.piece(0, 0), 'o');
        Due.same("unpack a fault", press.unpack(0), -2);
        Due.same("no piece behind a fault", press.piece(0, 0), -1);
        Due.same("the place", press.place(), 0);
        press.pack(2);
        Due.same("the place stays", press.place(), 0);
        for (int what = 0; what <= 7; what++) {
            Due.same("about no block " + what, press.about(what), 0);
        }
        Due.same("no block, no piece", press.piece(0, 0), -1);
        Due.feed(press, Due.joined(Due.times(1, 3), Due.random(new Random(1), 700, 256)));
        press.pack(1);
        Due.feed(press, 9);
        press.alter(0, 8);
        press.end(0);
        Due.same("feed, alter and end leave the pieces", press.piece(0, 0) >= 0 ? 1 : 0, 1);
        press.copy();
        Due.same("copy too", press.piece(0, 0) >= 0 ? 1 : 0, 1);
    }

    /** Nothing of an earlier pack() or unpack() is left in a later one. */
    private static void packAfterPack() {
        Random random = new Random(6);
        RotationPress used = new RotationPress();
        for (int n : new int[] {2240, 3, 700, 1, 5, 1300, 0, 40, 270, 2}) {
            int[] bytes = Due.random(random, n, 1 + random.nextInt(256));
            int level = 1 + random.nextInt(3);
            RotationPress fresh = Due.fed(bytes);
            used.end(0);
            Due.feed(used, bytes);
            Due.same("pack after pack", used.pack(level), fresh.pack(level));
            Due.same("out after pack", Due.out(used), Due.out(fresh));
            for (int what = 0; what <= 7; what++) {
                Due.same("about after pack " + what, used.about(what), fresh.about(what));
            }
            for (int which = 0; which <= 10; which++) {
                for (int i = -1; i <= 2251; i++) {
                    Due.same("piece after pack " + which + " " + i, used.piece(which, i), fresh.piece(which, i));
                }
            }
            if (random.nextBoolean()) {
                used.copy();
                Due.same("unpack between", used.unpack(60000), n);
            }
        }
    }

    private static void random() {
        Random random = new Random(11);
        for (int kinds : new int[] {1, 2, 3, 5, 17, 64, 200, 256}) {
            for (int n : new int[] {1, 2, 3, 7, 49, 50, 51, 199, 333, 1000, 2300}) {
                int level = 1 + random.nextInt(9);
                compare(Due.random(random, n, kinds), level);
                compare(Due.randomRuns(random, n, kinds, 6), level);
                compare(Due.randomRuns(random, n, kinds, 600), level);
                compare(skewed(random, n, kinds), level);
            }
        }
    }

    /** Few bytes often and many seldom, so that lengths go far apart. */
    private static int[] skewed(Random random, int n, int kinds) {
        int[] bytes = new int[n];
        for (int i = 0; i < n; i++) {
            int b = 0;
            while (b < kinds - 1 && random.nextInt(3) > 0) {
                b++;
            }
            bytes[i] = b;
        }
        return bytes;
    }

    private static void fullTapes() {
        Random random = new Random(12);
        for (int level : new int[] {1, 2, 9}) {
            compare(Due.random(random, 10240, 256), level);
            compare(Due.randomRuns(random, 10240, 256, 4), level);
            compare(skewed(random, 10240, 256), level);
            int[] fours = new int[10240];
            for (int i = 0; i < fours.length; i++) {
                fours[i] = (i / 4 * 37) % 256;
            }
            compare(fours, level);
        }
    }

    static void compare(int[] bytes, int level) {
        RotationPress press = Due.fed(bytes);
        String what = bytes.length + " bytes at level " + level + " " + Arrays.hashCode(bytes);
        int[] want = Reference.pack(bytes, level);
        Due.same(what + ": pack", press.pack(level), want.length);
        Due.same(what + ": size", press.size(), want.length);
        Due.same(what + ": out", Due.out(press), want);
        Due.same(what + ": length", press.length(), 0);
        List<Reference.Block> blocks = Reference.blocks(bytes, level);
        if (!blocks.isEmpty()) {
            pieces(press, what, blocks.get(blocks.size() - 1));
        }
        int told = 0;
        int symbols = 0;
        int groups = 0;
        for (Reference.Block block : blocks) {
            told += block.told.size();
            symbols += block.symbols.length;
            groups += block.groupTables.length;
        }
        Due.same(what + ": blocks", press.about(0), blocks.size());
        Due.same(what + ": told", press.about(1), told);
        Due.same(what + ": symbols", press.about(2), symbols);
        Due.same(what + ": groups", press.about(3), groups);
        if (want.length <= 10240) {
            press.copy();
            Due.same(what + ": unpack", press.unpack(bytes.length), bytes.length);
            Due.same(what + ": place", press.place(), -1);
            Due.same(what + ": unpacked", Due.out(press), bytes);
        }
    }

    private static void pieces(RotationPress press, String what, Reference.Block block) {
        Due.same(what + ": ORIGIN", press.about(4), block.origin);
        Due.same(what + ": listed", press.about(5), block.listed);
        Due.same(what + ": tables", press.about(6), block.lengths.length);
        Due.same(what + ": CHECK", press.about(7), block.check);
        piece(press, what, 0, Reference.row(block.told));
        piece(press, what, 1, block.last);
        piece(press, what, 2, block.ups);
        piece(press, what, 3, block.symbols);
        piece(press, what, 4, block.groupTables);
        for (int t = 0; t < 6; t++) {
            piece(press, what, 5 + t, t < block.lengths.length ? block.lengths[t] : new int[0]);
        }
    }

    private static void piece(RotationPress press, String what, int which, int[] want) {
        int[] got = new int[want.length];
        for (int i = 0; i < got.length; i++) {
            got[i] = press.piece(which, i);
        }
        Due.same(what + ": piece " + which, got, want);
        Due.same(what + ": piece " + which + " behind the end", press.piece(which, want.length), -1);
        Due.same(what + ": piece " + which + " below 0", press.piece(which, -1), -1);
    }
}
