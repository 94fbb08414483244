import java.util.List;

/** The whole face once more, on the Reference: what each call of a run is to answer. */
final class Model {
    private int[] tape = {};
    private int[] out = {};
    private int place = -1;
    private List<Reference.Block> blocks = List.of();
    private boolean unpackedSince = false;

    int feed(int... numbers) {
        if (tape.length + 20 > 10240) {
            throw new IllegalStateException();
        }
        int[] more = new int[20];
        for (int n = 0; n < 20; n++) {
            more[n] = numbers[n / 4] >> 24 - n % 4 * 8 & 255;
        }
        tape = Due.joined(tape, more);
        return tape.length;
    }

    void end(int n) {
        if (n < 0 || n > tape.length) {
            throw new IllegalArgumentException();
        }
        tape = java.util.Arrays.copyOf(tape, n);
    }

    int alter(int i, int b) {
        if (i < 0 || i >= tape.length) {
            throw new IndexOutOfBoundsException();
        }
        if (b < 0 || b > 255) {
            throw new IllegalArgumentException();
        }
        int before = tape[i];
        tape[i] = b;
        return before;
    }

    int copy() {
        if (out.length > 10240) {
            throw new IllegalStateException();
        }
        tape = out.clone();
        return tape.length;
    }

    int pack(int level) {
        if (level < 1 || level > 9) {
            throw new IllegalArgumentException();
        }
        blocks = Reference.blocks(tape, level);
        out = Reference.pack(tape, level);
        tape = new int[0];
        unpackedSince = false;
        return out.length;
    }

    int unpack(int limit) {
        if (limit < 0 || limit > 60000) {
            throw new IllegalArgumentException();
        }
        int[] file = tape;
        tape = new int[0];
        out = new int[0];
        unpackedSince = true;
        try {
            out = Reference.unpack(file, limit);
            place = -1;
            return out.length;
        } catch (Reference.Fault fault) {
            place = fault.bit;
            return -fault.number;
        }
    }

    int place() {
        return place;
    }

    int length() {
        return tape.length;
    }

    int size() {
        return out.length;
    }

    int out(int i) {
        if (i < 0 || i >= out.length) {
            throw new IndexOutOfBoundsException();
        }
        return out[i];
    }

    int piece(int which, int i) {
        if (which < 0 || which > 10) {
            throw new IllegalArgumentException();
        }
        if (unpackedSince || blocks.isEmpty()) {
            return -1;
        }
        Reference.Block block = blocks.get(blocks.size() - 1);
        int[][] rows = {Reference.row(block.told), block.last, block.ups, block.symbols, block.groupTables};
        if (which >= 5 + block.lengths.length) {
            return -1;
        }
        int[] row = which < 5 ? rows[which] : block.lengths[which - 5];
        return i < 0 || i >= row.length ? -1 : row[i];
    }

    int about(int what) {
        if (what < 0 || what > 7) {
            throw new IllegalArgumentException();
        }
        if (blocks.isEmpty()) {
            return 0;
        }
        Reference.Block last = blocks.get(blocks.size() - 1);
        int[] all = {blocks.size(), 0, 0, 0, last.origin, last.listed, last.lengths.length, last.check};
        for (Reference.Block block : blocks) {
            all[1] += block.told.size();
            all[2] += block.symbols.length;
            all[3] += block.groupTables.length;
        }
        return all[what];
    }
}
