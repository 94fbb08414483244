import java.util.Arrays;
import java.util.Random;

/** What the tests share: counting wrong answers, and objects whose tape is filled. */
final class Due {
    private static int wrong = 0;
    private static int asked = 0;

    private Due() { }

    static void same(String what, long got, long want) {
        asked++;
        if (got != want) {
            tell(what + " answered " + got + ", due is " + want);
        }
    }

    static void same(String what, int[] got, int[] want) {
        asked++;
        if (!Arrays.equals(got, want)) {
            int at = Arrays.mismatch(got, want);
            tell(what + ": " + got.length + " for " + want.length + ", other from " + at + " on");
        }
    }

    static void fails(String what, Class<? extends RuntimeException> kind, Runnable call) {
        asked++;
        try {
            call.run();
            tell(what + " threw nothing, due is " + kind.getSimpleName());
        } catch (RuntimeException e) {
            if (e.getClass() != kind) {
                tell(what + " threw " + e + ", due is " + kind.getSimpleName());
            }
        }
    }

    private static void tell(String text) {
        wrong++;
        if (wrong <= 40) {
            System.out.println(text);
        }
    }

    static void finish() {
        System.out.println(asked + " asked, " + wrong + " wrong");
        if (wrong != 0 || asked == 0) {
            System.exit(1);
        }
    }

    static RotationPress fed(int... bytes) {
        RotationPress press = new RotationPress();
        feed(press, bytes);
        return press;
    }

    /** Puts the bytes behind the tape; what feed() brings too much is cut off. */
    static void feed(RotationPress press, int... bytes) {
        int before = press.length();
        for (int at = 0; at < bytes.length; at += 20) {
            int[] numbers = new int[5];
            for (int n = 0; n < 20; n++) {
                int b = at + n < bytes.length ? bytes[at + n] : 0;
                numbers[n / 4] = numbers[n / 4] << 8 | b;
            }
            press.feed(numbers[0], numbers[1], numbers[2], numbers[3], numbers[4]);
        }
        press.end(before + bytes.length);
    }

    /**
     * All bytes of the out. So tests use an object for more calls than the document speaks of;
     * this class answers them all the same way.
     */
    static int[] out(RotationPress press) {
        int[] bytes = new int[press.size()];
        for (int i = 0; i < bytes.length; i++) {
            bytes[i] = press.out(i);
        }
        return bytes;
    }

    /** All bytes of the tape, each put back as it was. */
    static int[] tape(RotationPress press) {
        int[] bytes = new int[press.length()];
        for (int i = 0; i < bytes.length; i++) {
            bytes[i] = press.alter(i, 0);
            press.alter(i, bytes[i]);
        }
        return bytes;
    }

    /** An object whose out has so many bytes b, 60000 at most, and whose tape has none. */
    static RotationPress unpacked(int b, int n) {
        RotationPress press = fed(Reference.pack(times(b, n), 9));
        press.unpack(60000);
        return press;
    }

    /** An object whose tape has so many bytes b, 10240 at most, made with few calls. */
    static RotationPress filled(int b, int n) {
        RotationPress press = unpacked(b, n);
        press.copy();
        return press;
    }

    static int[] bytes(String text) {
        return text.chars().toArray();
    }

    static int[] times(int b, int n) {
        int[] bytes = new int[n];
        Arrays.fill(bytes, b);
        return bytes;
    }

    static int[] joined(int[]... rows) {
        return Arrays.stream(rows).flatMapToInt(Arrays::stream).toArray();
    }

    static int[] random(Random random, int n, int kinds) {
        return random.ints(n, 0, kinds).toArray();
    }

    /** Runs of all lengths, so that some are cut and many need a number. */
    static int[] randomRuns(Random random, int n, int kinds, int longest) {
        int[] bytes = new int[n];
        int at = 0;
        while (at < n) {
            int b = random.nextInt(kinds);
            int run = 1 + random.nextInt(longest);
            for (int k = 0; k < run && at < n; k++) {
                bytes[at++] = b;
            }
        }
        return bytes;
    }
}
