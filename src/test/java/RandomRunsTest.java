import java.util.Random;
import java.util.function.IntSupplier;

/** Promises 1 to 13 together: runs of up to 512 calls of all kinds, beside the model's answers. */
public final class RandomRunsTest {
    private static final int[] EDGES = {
        Integer.MIN_VALUE, Integer.MIN_VALUE + 1, -60000, -256, -2, -1, 0, 1, 2, 3, 4, 7, 8, 9, 10, 11, 49, 50, 255, 256,
        2249, 2250, 2251, 10239, 10240, 10241, 59999, 60000, 60001, 65536, Integer.MAX_VALUE - 1, Integer.MAX_VALUE,
    };
    private static final int CALLS = 512;

    private final Random random;
    private final RotationPress press = new RotationPress();
    private final Model model = new Model();
    private int calls = 0;

    private RandomRunsTest(int seed) {
        random = new Random(seed);
    }

    public static void main(String[] args) {
        for (int seed = 0; seed < 400; seed++) {
            new RandomRunsTest(seed).run(seed);
        }
        Due.finish();
    }

    private void run(int seed) {
        if (seed % 8 == 0) {
            longOut();
        }
        while (calls < CALLS) {
            step();
        }
    }

    private void compare(String what, IntSupplier got, IntSupplier want) {
        if (calls++ < CALLS) {
            String answer = answer(got);
            String due = answer(want);
            Due.same("call " + calls + ": " + what + " " + answer + " for " + due, answer.equals(due) ? 1 : 0, 1);
        }
    }

    private static String answer(IntSupplier call) {
        try {
            return Integer.toString(call.getAsInt());
        } catch (RuntimeException e) {
            return e.getClass().getSimpleName();
        }
    }

    /** A file of few bytes that become many: often just as many as fit on a tape, or one more. */
    private void longOut() {
        int n = new int[] {10219, 10220, 10221, 10240, 10241, 16384, 59999, 60000, 60001}[random.nextInt(9)];
        int[] file = Reference.pack(Due.times(random.nextInt(256), n), 9);
        for (int at = 0; at < file.length; at += 20) {
            int[] numbers = new int[5];
            for (int k = 0; k < 20; k++) {
                numbers[k / 4] = numbers[k / 4] << 8 | (at + k < file.length ? file[at + k] : 0);
            }
            feed(numbers);
        }
        end(file.length);
        unpack(60000);
    }

    private void step() {
        switch (random.nextInt(16)) {
            case 0 -> feed(numbers());
            case 1 -> feedMuch();
            case 2 -> end(random.nextInt(3) == 0 ? edge(model.length()) : random.nextInt(model.length() + 1));
            case 3 -> alter(edge(model.length()), edge(255));
            case 4 -> copy();
            case 5 -> pack(edge(9));
            case 6 -> pack(1 + random.nextInt(9));
            case 7 -> unpack(edge(model.size()));
            case 8 -> wayBack();
            case 9 -> alteredWayBack();
            case 10 -> out(edge(model.size()));
            case 11, 12 -> piece(random.nextInt(13) - 1, edge(model.about(1 + random.nextInt(3))));
            case 13 -> about(random.nextInt(10) - 1);
            case 14 -> about(edge(8));
            default -> counts();
        }
    }

    private int edge(int near) {
        int kind = random.nextInt(3);
        if (kind == 0) {
            return EDGES[random.nextInt(EDGES.length)];
        }
        return kind == 1 ? near - 1 + random.nextInt(3) : random.nextInt(Math.max(1, near + 1));
    }

    /** Often equal bytes, so that runs become long. */
    private int[] numbers() {
        int[] numbers = new int[5];
        int kind = random.nextInt(4);
        int b = random.nextInt(256);
        for (int k = 0; k < 5; k++) {
            numbers[k] = kind == 0 ? random.nextInt() : kind == 1 ? EDGES[random.nextInt(EDGES.length)] : b * 0x01010101;
        }
        return numbers;
    }

    private void feedMuch() {
        int[] numbers = numbers();
        for (int times = random.nextInt(30); times >= 0; times--) {
            feed(random.nextInt(3) == 0 ? numbers() : numbers);
        }
    }

    private void wayBack() {
        pack(1 + random.nextInt(9));
        copy();
        unpack(60000);
    }

    private void alteredWayBack() {
        pack(1 + random.nextInt(9));
        copy();
        for (int times = random.nextInt(3); times >= 0; times--) {
            alter(random.nextInt(model.length() + 1), random.nextInt(256));
        }
        unpack(random.nextInt(4) == 0 ? edge(200) : 60000);
        counts();
    }

    private void counts() {
        compare("length", press::length, model::length);
        compare("size", press::size, model::size);
        compare("place", press::place, model::place);
    }

    private void feed(int[] n) {
        compare("feed", () -> press.feed(n[0], n[1], n[2], n[3], n[4]), () -> model.feed(n));
    }

    private void end(int n) {
        compare("end " + n, () -> {
            press.end(n);
            return 0;
        }, () -> {
            model.end(n);
            return 0;
        });
    }

    private void alter(int i, int b) {
        compare("alter " + i + " " + b, () -> press.alter(i, b), () -> model.alter(i, b));
    }

    private void copy() {
        compare("copy", press::copy, model::copy);
    }

    private void pack(int level) {
        compare("pack " + level, () -> press.pack(level), () -> model.pack(level));
    }

    private void unpack(int limit) {
        compare("unpack " + limit, () -> press.unpack(limit), () -> model.unpack(limit));
    }

    private void out(int i) {
        compare("out " + i, () -> press.out(i), () -> model.out(i));
    }

    private void piece(int which, int i) {
        compare("piece " + which + " " + i, () -> press.piece(which, i), () -> model.piece(which, i));
    }

    private void about(int what) {
        compare("about " + what, () -> press.about(what), () -> model.about(what));
    }
}
