import java.util.ArrayList;
import java.util.List;
import java.util.TreeSet;

/** Makes files bit by bit, right ones and wrong ones, and knows where each thing begins. */
final class FileMaker {
    final StringBuilder bits = new StringBuilder();
    int level = 1;
    int blockAt;
    int originAt;
    int usedAt;
    int tablesAt;
    int groupsAt;
    int groupAt;
    int lengthsAt;
    int symbolsAt;
    int checkOfAllAt;
    final List<Integer> checks = new ArrayList<>();

    static FileMaker at(int level) {
        FileMaker maker = new FileMaker();
        maker.level = level;
        return maker.put(82, 8).put(80, 8).put(48 + level, 8);
    }

    FileMaker put(long value, int count) {
        bits.append(Reference.bits(value, count));
        return this;
    }

    FileMaker put(String text) {
        bits.append(text);
        return this;
    }

    FileMaker beginBlock(int check, int origin) {
        blockAt = bits.length();
        put(1, 8).put(check, 32);
        checks.add(check);
        originAt = bits.length();
        return put(origin, 16);
    }

    FileMaker used(int... bytes) {
        usedAt = bits.length();
        List<Integer> told = new ArrayList<>();
        for (int b : bytes) {
            told.add(b);
        }
        return put(Reference.used(told));
    }

    FileMaker counts(int tables, int groups) {
        tablesAt = bits.length();
        put(tables, 3);
        groupsAt = bits.length();
        put(groups, 15);
        groupAt = bits.length();
        return this;
    }

    /** So many tables with these lengths each. */
    FileMaker tables(int times, int... lengths) {
        lengthsAt = bits.length();
        for (int t = 0; t < times; t++) {
            put(Reference.table(lengths));
        }
        symbolsAt = bits.length();
        return this;
    }

    FileMaker finish() {
        put(0, 8);
        checkOfAllAt = bits.length();
        return put(Reference.checkOfAll(checks), 32);
    }

    /** A whole block that tells these bytes, with two tables of one code. */
    FileMaker block(int[] told, int check, int[] lengths) {
        Reference.Block block = blockOf(told);
        int groups = (block.symbols.length + 49) / 50;
        beginBlock(check, block.origin).used(told).counts(2, groups).put("0".repeat(groups)).tables(2, lengths);
        return symbols(lengths, block.symbols);
    }

    FileMaker symbols(int[] lengths, int... symbols) {
        String[] codes = Reference.codes(lengths);
        for (int symbol : symbols) {
            put(codes[symbol]);
        }
        return this;
    }

    static Reference.Block blockOf(int[] told) {
        Reference.Block block = new Reference.Block();
        for (int b : told) {
            block.told.add(b);
        }
        Reference.rotate(block);
        Reference.list(block);
        return block;
    }

    /** Lengths that are all the same, as short as so many bytes let them be. */
    static int[] even(int[] told) {
        TreeSet<Integer> kinds = new TreeSet<>(blockOf(told).told);
        int length = 1;
        while (1 << length < kinds.size() + 2) {
            length++;
        }
        return Due.times(length, kinds.size() + 2);
    }

    int[] bytes() {
        return Reference.bytesOf(bits.toString());
    }
}
