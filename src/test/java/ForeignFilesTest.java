import java.util.Arrays;
import java.util.Random;

/** Promises 6 to 8 on many files that pack() did not make: what the reference answers is due. */
public final class ForeignFilesTest {
    private static final int[] FOUND = new int[16];

    public static void main(String[] args) {
        alteredBytes();
        alteredBits();
        randomFiles();
        randomBytes();
        for (int fault = 0; fault < FOUND.length; fault++) {
            Due.same("fault " + fault + " was met", FOUND[fault] > 0 ? 1 : 0, 1);
        }
        Due.finish();
    }

    private static void compare(RotationPress press, String what, int[] file, int limit) {
        press.end(0);
        Due.feed(press, file);
        int answer = press.unpack(limit);
        try {
            int[] out = Reference.unpack(file, limit);
            Due.same(what + ": unpack", answer, out.length);
            Due.same(what + ": place", press.place(), -1);
            Due.same(what + ": out", Due.out(press), out);
            FOUND[0]++;
        } catch (Reference.Fault fault) {
            Due.same(what + ": fault", answer, -fault.number);
            Due.same(what + ": place of " + answer, press.place(), fault.bit);
            Due.same(what + ": size", press.size(), 0);
            FOUND[fault.number]++;
        }
    }

    private static int[][] samples(Random random) {
        return new int[][] {
            Due.bytes("to be altered, to be altered, and to be told where"),
            Due.randomRuns(random, 600, 3, 300), Due.random(random, 300, 200), Due.randomRuns(random, 700, 30, 9),
        };
    }

    private static void alteredBytes() {
        Random random = new Random(21);
        RotationPress press = new RotationPress();
        for (int[] bytes : samples(random)) {
            int[] file = Reference.pack(bytes, 1);
            for (int at = 0; at < file.length; at++) {
                for (int b : new int[] {0, 255, file[at] ^ 1, file[at] ^ 128, random.nextInt(256)}) {
                    int[] other = file.clone();
                    other[at] = b;
                    compare(press, "byte " + at + " of " + bytes.length + " is " + b, other, 60000);
                    compare(press, "byte " + at + " of " + bytes.length + " is " + b, other, random.nextInt(400));
                }
            }
        }
    }

    private static void alteredBits() {
        Random random = new Random(22);
        RotationPress press = new RotationPress();
        for (int[] bytes : samples(random)) {
            int[] file = Reference.pack(bytes, 2);
            for (int n = 0; n < 2000; n++) {
                int[] other = Arrays.copyOf(file, random.nextInt(9) == 0 ? random.nextInt(file.length) : file.length);
                for (int k = random.nextInt(4); k >= 0 && other.length > 0; k--) {
                    other[random.nextInt(other.length)] ^= 1 << random.nextInt(8);
                }
                compare(press, "bits, try " + n, other, random.nextInt(3000));
            }
        }
    }

    /** Files that are made well but for a few places, with codes, groups and bytes of all kinds. */
    private static void randomFiles() {
        Random random = new Random(23);
        RotationPress press = new RotationPress();
        for (int n = 0; n < 6000; n++) {
            FileMaker file = FileMaker.at(1 + random.nextInt(2));
            int blocks = random.nextInt(3);
            for (int k = 0; k <= blocks; k++) {
                randomBlock(random, file);
            }
            file.finish();
            if (random.nextInt(8) == 0) {
                file.put(random.nextInt(2), random.nextInt(12));
            }
            if (random.nextInt(8) == 0) {
                file.bits.setLength(random.nextInt(file.bits.length()));
            }
            int[] bytes = file.bytes();
            if (bytes.length <= 10240) {
                compare(press, "file " + n, bytes, random.nextInt(4) == 0 ? random.nextInt(300) : 60000);
            }
        }
    }

    private static void randomBlock(Random random, FileMaker file) {
        int[] kinds = random.ints(1 + random.nextInt(random.nextInt(6) == 0 ? 256 : 6), 0, 256).distinct().toArray();
        int symbolKinds = kinds.length + 2;
        int tables = 2 + random.nextInt(5);
        int groups = 1 + random.nextInt(random.nextInt(9) == 0 ? 40 : 2);
        int[] groupTables = Due.random(random, groups, tables);
        int[][] lengths = new int[tables][];
        for (int t = 0; t < tables; t++) {
            lengths[t] = randomLengths(random, symbolKinds);
        }
        int count = (groups - 1) * 50 + random.nextInt(50);
        int[] symbols = random.nextInt(3) == 0 ? fewZeros(random, count, symbolKinds) : zeros(random, count, symbolKinds);
        int origin = random.nextInt(random.nextInt(5) == 0 ? 300 : 2);
        file.beginBlock(0, origin).used(kinds).counts(tables, groups).put(Reference.groups(groupTables, tables));
        for (int[] each : lengths) {
            file.tables(1, each);
        }
        for (int i = 0; i < symbols.length; i++) {
            file.symbols(lengths[groupTables[i / 50]], symbols[i]);
        }
        file.symbols(lengths[groupTables[symbols.length / 50]], symbolKinds - 1);
        rightCheck(file);
    }

    private static int[] zeros(Random random, int count, int kinds) {
        return random.ints(count, 0, 9).map(s -> s < 3 ? s % 2 : s % (kinds - 1)).toArray();
    }

    private static int[] fewZeros(Random random, int count, int kinds) {
        return random.ints(count, 0, kinds - 1).map(s -> random.nextInt(12) > 0 ? Math.max(s, kinds > 3 ? 2 : 0) : s).toArray();
    }

    /** Each length 1 .. 20, mostly such that the code has room; often it leaves some unused. */
    private static int[] randomLengths(Random random, int kinds) {
        int least = 32 - Integer.numberOfLeadingZeros(kinds - 1);
        if (random.nextInt(3) == 0) {
            int[] lengths = Reference.lengths(random.ints(kinds, 1, 40).toArray());
            if (random.nextInt(2) == 0) {
                lengths[random.nextInt(kinds)] = 20;
            }
            if (random.nextInt(60) == 0) {
                lengths[random.nextInt(kinds)] = 1;
            }
            return lengths;
        }
        int most = Math.min(20, least + random.nextInt(12));
        return random.ints(kinds, least, most + 1).toArray();
    }

    /** Puts in the check that comes out, where the block lets bytes come out at all. */
    private static void rightCheck(FileMaker file) {
        String block = file.bits.substring(file.blockAt);
        FileMaker alone = FileMaker.at(file.level).put(block).put(0, 40);
        for (int tries = 0; tries < 2; tries++) {
            try {
                Reference.unpack(alone.bytes(), 1 << 20);
                return;
            } catch (Reference.Fault fault) {
                if (fault.number != 13) {
                    return;
                }
                int check = Reference.check(Reference.latestBlock());
                String bits = Reference.bits(check, 32);
                file.bits.replace(file.blockAt + 8, file.blockAt + 40, bits);
                alone.bits.replace(32, 64, bits);
                file.checks.set(file.checks.size() - 1, check);
            }
        }
    }

    private static void randomBytes() {
        Random random = new Random(24);
        RotationPress press = new RotationPress();
        for (int n = 0; n < 3000; n++) {
            int[] bytes = Due.random(random, 4 + random.nextInt(200), 256);
            bytes[0] = 82;
            bytes[1] = 80;
            bytes[2] = 49 + random.nextInt(9);
            bytes[3] = 1;
            compare(press, "bytes " + n, bytes, 60000);
        }
    }
}
