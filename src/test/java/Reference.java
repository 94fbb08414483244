import java.util.ArrayList;
import java.util.Arrays;
import java.util.Collections;
import java.util.Comparator;
import java.util.List;
import java.util.TreeMap;
import java.util.TreeSet;

/** The document said once more, as literally and as slowly as it stands there. */
final class Reference {
    static final class Block {
        List<Integer> packed = new ArrayList<>();
        List<Integer> told = new ArrayList<>();
        int[] last;
        int[] ups;
        int[] symbols;
        int[] groupTables;
        int[][] lengths;
        int origin;
        int listed;
        int check;
    }

    static final class Fault extends RuntimeException {
        private static final long serialVersionUID = 1L;
        final int number;
        final int bit;

        Fault(int number, int bit) {
            this.number = number;
            this.bit = bit;
        }
    }

    private static int[] latestBlock = {};

    private Reference() { }

    /** What the latest block of the latest unpack() brought out, also if its check was wrong. */
    static int[] latestBlock() {
        return latestBlock;
    }

    // ---- packing

    static List<Block> blocks(int[] bytes, int level) {
        List<Block> blocks = new ArrayList<>();
        Block block = null;
        for (int at = 0; at < bytes.length; ) {
            int run = 1;
            while (run < 255 && at + run < bytes.length && bytes[at + run] == bytes[at]) {
                run++;
            }
            List<Integer> told = new ArrayList<>(Collections.nCopies(Math.min(run, 4), bytes[at]));
            if (run >= 4) {
                told.add(run - 4);
            }
            if (block == null || block.told.size() + told.size() > 250 * level) {
                block = new Block();
                blocks.add(block);
            }
            block.told.addAll(told);
            block.packed.addAll(Collections.nCopies(run, bytes[at]));
            at += run;
        }
        for (Block each : blocks) {
            each.check = check(row(each.packed));
            rotate(each);
            list(each);
            code(each, 4);
        }
        return blocks;
    }

    static int[] row(List<Integer> list) {
        return list.stream().mapToInt(Integer::intValue).toArray();
    }

    static int check(int[] bytes) {
        long check = 0xffffffffL;
        for (int b : bytes) {
            for (int n = 7; n >= 0; n--) {
                long goes = (check >> 31 & 1) ^ (b >> n & 1);
                check = check << 1 & 0xffffffffL;
                if (goes == 1) {
                    check ^= 0x04c11db7L;
                }
            }
        }
        return (int) (check ^ 0xffffffffL);
    }

    static int checkOfAll(List<Integer> checks) {
        int all = 0;
        for (int check : checks) {
            all = Integer.rotateLeft(all, 1) ^ check;
        }
        return all;
    }

    static void rotate(Block block) {
        int[] told = row(block.told);
        int n = told.length;
        List<Integer> begins = new ArrayList<>();
        for (int i = 0; i < n; i++) {
            begins.add(i);
        }
        begins.sort((a, b) -> {
            for (int k = 0; k < n; k++) {
                int order = Integer.compare(told[(a + k) % n], told[(b + k) % n]);
                if (order != 0) {
                    return order;
                }
            }
            return Integer.compare(a, b);
        });
        block.origin = begins.indexOf(0);
        block.last = begins.stream().mapToInt(a -> told[(a + n - 1) % n]).toArray();
    }

    static void list(Block block) {
        List<Integer> list = new ArrayList<>(new TreeSet<>(block.told));
        block.listed = list.size();
        block.ups = new int[block.last.length];
        for (int i = 0; i < block.last.length; i++) {
            block.ups[i] = list.indexOf(block.last[i]);
            list.add(0, list.remove(block.ups[i]));
        }
        List<Integer> symbols = new ArrayList<>();
        for (int i = 0; i < block.ups.length; ) {
            int zeros = 0;
            while (i + zeros < block.ups.length && block.ups[i + zeros] == 0) {
                zeros++;
            }
            i += zeros;
            while (zeros > 0) {
                int digit = zeros % 2 == 1 ? 1 : 2;
                symbols.add(digit - 1);
                zeros = (zeros - digit) / 2;
            }
            if (i < block.ups.length) {
                symbols.add(block.ups[i++] + 1);
            }
        }
        symbols.add(block.listed + 1);
        block.symbols = row(symbols);
    }

    static void code(Block block, int times) {
        int n = block.symbols.length;
        int groups = (n + 49) / 50;
        int tables = n < 200 ? 2 : n < 600 ? 3 : n < 1200 ? 4 : n < 2400 ? 5 : 6;
        block.groupTables = new int[groups];
        for (int g = 0; g < groups; g++) {
            block.groupTables[g] = g * tables / groups;
        }
        block.lengths = new int[tables][];
        for (int time = 0; time < times; time++) {
            for (int t = 0; t < tables; t++) {
                int[] weights = new int[block.listed + 2];
                Arrays.fill(weights, 1);
                for (int i = 0; i < n; i++) {
                    if (block.groupTables[i / 50] == t) {
                        weights[block.symbols[i]]++;
                    }
                }
                block.lengths[t] = lengths(weights);
            }
            for (int g = 0; g < groups; g++) {
                int[] bits = new int[tables];
                for (int i = 50 * g; i < Math.min(n, 50 * g + 50); i++) {
                    for (int t = 0; t < tables; t++) {
                        bits[t] += block.lengths[t][block.symbols[i]];
                    }
                }
                int least = Arrays.stream(bits).min().getAsInt();
                for (int t = tables - 1; t >= 0; t--) {
                    if (bits[t] == least) {
                        block.groupTables[g] = t;
                    }
                }
            }
        }
    }

    private record Node(long weight, int made, List<Integer> symbols) { }

    static int[] lengths(int[] weights) {
        int[] lengths = new int[weights.length];
        List<Node> nodes = new ArrayList<>();
        for (int s = 0; s < weights.length; s++) {
            nodes.add(new Node(weights[s], s, List.of(s)));
        }
        int made = weights.length;
        while (nodes.size() > 1) {
            nodes.sort(Comparator.comparingLong(Node::weight).thenComparingInt(Node::made));
            Node a = nodes.remove(0);
            Node b = nodes.remove(0);
            List<Integer> both = new ArrayList<>(a.symbols());
            both.addAll(b.symbols());
            both.forEach(s -> lengths[s]++);
            nodes.add(new Node(a.weight() + b.weight(), made++, both));
        }
        if (Arrays.stream(lengths).max().getAsInt() > 17) {
            return lengths(Arrays.stream(weights).map(w -> w / 2 + 1).toArray());
        }
        return lengths;
    }

    /** The codes by their symbols, as texts of 0 and 1. */
    static String[] codes(int[] lengths) {
        String[] codes = new String[lengths.length];
        int number = -1;
        int before = 0;
        for (int length = 1; length <= 20; length++) {
            for (int s = 0; s < lengths.length; s++) {
                if (lengths[s] == length) {
                    number = before == 0 ? 0 : number + 1 << length - before;
                    before = length;
                    codes[s] = bits(number, length);
                }
            }
        }
        return codes;
    }

    static String bits(long number, int count) {
        StringBuilder text = new StringBuilder();
        for (int n = count - 1; n >= 0; n--) {
            text.append(number >> n & 1);
        }
        return text.toString();
    }

    static int[] pack(int[] bytes, int level) {
        List<Block> blocks = blocks(bytes, level);
        StringBuilder file = new StringBuilder(bits(82, 8) + bits(80, 8) + bits(48 + level, 8));
        List<Integer> checks = new ArrayList<>();
        for (Block block : blocks) {
            file.append(bits(1, 8)).append(bits(block.check, 32)).append(bits(block.origin, 16));
            file.append(used(block.told)).append(bits(block.lengths.length, 3));
            file.append(bits(block.groupTables.length, 15)).append(groups(block.groupTables, block.lengths.length));
            List<String[]> codes = new ArrayList<>();
            for (int[] lengths : block.lengths) {
                file.append(table(lengths));
                codes.add(codes(lengths));
            }
            for (int i = 0; i < block.symbols.length; i++) {
                file.append(codes.get(block.groupTables[i / 50])[block.symbols[i]]);
            }
            checks.add(block.check);
        }
        file.append(bits(0, 8)).append(bits(checkOfAll(checks), 32));
        return bytesOf(file.toString());
    }

    static String used(List<Integer> told) {
        TreeSet<Integer> used = new TreeSet<>(told);
        StringBuilder first = new StringBuilder();
        StringBuilder rest = new StringBuilder();
        for (int high = 0; high < 256; high += 16) {
            boolean some = !used.subSet(high, high + 16).isEmpty();
            first.append(some ? 1 : 0);
            for (int b = high; some && b < high + 16; b++) {
                rest.append(used.contains(b) ? 1 : 0);
            }
        }
        return first.append(rest).toString();
    }

    static String groups(int[] groupTables, int tables) {
        List<Integer> list = new ArrayList<>();
        for (int t = 0; t < tables; t++) {
            list.add(t);
        }
        StringBuilder text = new StringBuilder();
        for (int table : groupTables) {
            int up = list.indexOf(table);
            list.add(0, list.remove(up));
            text.append("1".repeat(up)).append("0");
        }
        return text.toString();
    }

    static String table(int[] lengths) {
        StringBuilder text = new StringBuilder(bits(lengths[0], 5));
        int now = lengths[0];
        for (int length : lengths) {
            text.append("10".repeat(Math.max(0, length - now)));
            text.append("11".repeat(Math.max(0, now - length)));
            text.append("0");
            now = length;
        }
        return text.toString();
    }

    static int[] bytesOf(String bits) {
        String whole = bits + "0".repeat((8 - bits.length() % 8) % 8);
        int[] bytes = new int[whole.length() / 8];
        for (int i = 0; i < bytes.length; i++) {
            bytes[i] = Integer.parseInt(whole.substring(8 * i, 8 * i + 8), 2);
        }
        return bytes;
    }

    // ---- unpacking

    private static final class Bits {
        final String bits;
        int at = 0;

        Bits(int[] bytes) {
            StringBuilder text = new StringBuilder();
            for (int b : bytes) {
                text.append(bits(b, 8));
            }
            bits = text.toString();
        }

        int take(int count) {
            if (at + count > bits.length()) {
                throw new Fault(2, bits.length());
            }
            at += count;
            return Integer.parseUnsignedInt("0" + bits.substring(at - count, at), 2);
        }
    }

    static int[] unpack(int[] bytes, int limit) {
        Bits in = new Bits(bytes);
        List<Integer> out = new ArrayList<>();
        List<Integer> checks = new ArrayList<>();
        if (in.take(8) != 82) {
            throw new Fault(1, 0);
        }
        if (in.take(8) != 80) {
            throw new Fault(1, 8);
        }
        int level = in.take(8) - 48;
        if (level < 1 || level > 9) {
            throw new Fault(1, 16);
        }
        while (true) {
            int begin = in.at;
            int eight = in.take(8);
            if (eight == 0) {
                break;
            }
            if (eight != 1) {
                throw new Fault(3, begin);
            }
            int check = in.take(32);
            List<Integer> block = unrun(told(in, begin, 250 * level), begin, limit - out.size());
            latestBlock = row(block);
            if (check(latestBlock) != check) {
                throw new Fault(13, begin);
            }
            out.addAll(block);
            checks.add(check);
        }
        int begin = in.at;
        if (in.take(32) != checkOfAll(checks)) {
            throw new Fault(14, begin);
        }
        String behind = in.bits.substring(in.at);
        if (behind.length() >= 8 || behind.contains("1")) {
            throw new Fault(15, in.at);
        }
        return row(out);
    }

    /** The bytes that tell runs, of the block whose eight bits and check are read. */
    private static List<Integer> told(Bits in, int blockAt, int most) {
        int originAt = in.at;
        int origin = in.take(16);
        List<Integer> list = new ArrayList<>();
        int sixteens = in.take(16);
        if (sixteens == 0) {
            throw new Fault(4, in.at - 16);
        }
        for (int high = 0; high < 16; high++) {
            if ((sixteens & 0x8000 >> high) != 0) {
                int those = in.take(16);
                if (those == 0) {
                    throw new Fault(4, in.at - 16);
                }
                for (int low = 0; low < 16; low++) {
                    if ((those & 0x8000 >> low) != 0) {
                        list.add(16 * high + low);
                    }
                }
            }
        }
        int tables = in.take(3);
        if (tables < 2 || tables > 6) {
            throw new Fault(5, in.at - 3);
        }
        int groups = in.take(15);
        if (groups == 0) {
            throw new Fault(5, in.at - 15);
        }
        List<Integer> groupTables = readGroups(in, tables, groups);
        List<TreeMap<String, Integer>> codes = new ArrayList<>();
        for (int t = 0; t < tables; t++) {
            codes.add(readCodes(in, list.size() + 2));
        }
        List<Integer> last = readLast(in, blockAt, most, list, groupTables, codes);
        if (origin >= last.size()) {
            throw new Fault(9, originAt);
        }
        return unrotate(last, origin);
    }

    private static List<Integer> readGroups(Bits in, int tables, int groups) {
        List<Integer> list = new ArrayList<>();
        for (int t = 0; t < tables; t++) {
            list.add(t);
        }
        List<Integer> groupTables = new ArrayList<>();
        for (int g = 0; g < groups; g++) {
            int begin = in.at;
            int ones = 0;
            while (in.take(1) == 1) {
                ones++;
                if (ones > tables - 1) {
                    throw new Fault(5, begin);
                }
            }
            list.add(0, list.remove(ones));
            groupTables.add(list.get(0));
        }
        return groupTables;
    }

    private static TreeMap<String, Integer> readCodes(Bits in, int kinds) {
        int begin = in.at;
        int now = in.take(5);
        if (now < 1 || now > 20) {
            throw new Fault(6, begin);
        }
        int[] lengths = new int[kinds];
        double sum = 0;
        for (int s = 0; s < kinds; s++) {
            while (in.take(1) == 1) {
                now += in.take(1) == 0 ? 1 : -1;
                if (now < 1 || now > 20) {
                    throw new Fault(6, in.at - 2);
                }
            }
            lengths[s] = now;
            sum += 1.0 / (1 << now);
        }
        if (sum > 1) {
            throw new Fault(6, begin);
        }
        TreeMap<String, Integer> codes = new TreeMap<>();
        String[] texts = codes(lengths);
        for (int s = 0; s < kinds; s++) {
            codes.put(texts[s], s);
        }
        return codes;
    }

    private static int readSymbol(Bits in, TreeMap<String, Integer> codes) {
        int begin = in.at;
        while (true) {
            in.take(1);
            String soFar = in.bits.substring(begin, in.at);
            Integer symbol = codes.get(soFar);
            if (symbol != null) {
                return symbol;
            }
            String next = codes.ceilingKey(soFar);
            if (next == null || !next.startsWith(soFar)) {
                throw new Fault(7, begin);
            }
        }
    }

    private static List<Integer> readLast(Bits in, int blockAt, int most, List<Integer> list,
            List<Integer> groupTables, List<TreeMap<String, Integer>> codes) {
        int u = list.size();
        List<Integer> last = new ArrayList<>();
        int zeros = 0;
        int digits = 0;
        for (int i = 0; i < 50 * groupTables.size(); i++) {
            int begin = in.at;
            int symbol = readSymbol(in, codes.get(groupTables.get(i / 50)));
            if (symbol <= 1) {
                zeros += (symbol + 1) * (1 << digits++);
                if (last.size() + zeros > most) {
                    throw new Fault(8, begin);
                }
                continue;
            }
            last.addAll(Collections.nCopies(zeros, list.get(0)));
            zeros = 0;
            digits = 0;
            if (symbol == u + 1) {
                if (i / 50 != groupTables.size() - 1) {
                    throw new Fault(10, blockAt);
                }
                return last;
            }
            if (last.size() == most) {
                throw new Fault(8, begin);
            }
            list.add(0, list.remove(symbol - 1));
            last.add(list.get(0));
        }
        throw new Fault(10, blockAt);
    }

    private static List<Integer> unrotate(List<Integer> last, int origin) {
        List<Integer> places = new ArrayList<>();
        for (int i = 0; i < last.size(); i++) {
            places.add(i);
        }
        places.sort(Comparator.comparing(last::get));
        List<Integer> told = new ArrayList<>();
        int at = origin;
        for (int i = 0; i < last.size(); i++) {
            at = places.get(at);
            told.add(last.get(at));
        }
        return told;
    }

    private static List<Integer> unrun(List<Integer> told, int blockAt, int left) {
        List<Integer> out = new ArrayList<>();
        int i = 0;
        while (i < told.size()) {
            int b = told.get(i);
            int equal = 0;
            while (equal < 4 && i < told.size() && told.get(i) == b) {
                equal++;
                i++;
                out.add(b);
                if (out.size() > left) {
                    throw new Fault(12, blockAt);
                }
            }
            if (equal == 4) {
                if (i == told.size() || told.get(i) > 251) {
                    throw new Fault(11, blockAt);
                }
                out.addAll(Collections.nCopies(told.get(i++), b));
                if (out.size() > left) {
                    throw new Fault(12, blockAt);
                }
            }
        }
        return out;
    }
}
