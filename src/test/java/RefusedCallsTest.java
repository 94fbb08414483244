import java.util.ArrayList;
import java.util.List;
import java.util.function.Consumer;
import java.util.function.Supplier;

/**
 * "A call that throws changes nothing": in many states, each call that is refused there, with which
 * exception, and then every later answer beside those of a twin that was not so called.
 */
public final class RefusedCallsTest {
    private static final Class<IllegalStateException> STATE = IllegalStateException.class;
    private static final Class<IllegalArgumentException> ARGUMENT = IllegalArgumentException.class;
    private static final Class<IndexOutOfBoundsException> INDEX = IndexOutOfBoundsException.class;
    private static final int LEAST = Integer.MIN_VALUE;
    private static final int GREATEST = Integer.MAX_VALUE;
    private static final int FULL = 10240;

    private record Refused(String name, Class<? extends RuntimeException> kind, Consumer<RotationPress> call) { }

    private record Later(String name, Consumer<RotationPress> calls) { }

    private static final List<Later> LATERS = List.of(
            new Later("nothing", press -> { }),
            new Later("pack", press -> press.pack(1)),
            new Later("unpack", press -> press.unpack(60000)),
            new Later("copy and unpack", RefusedCallsTest::copyAndUnpack),
            new Later("feed and pack", RefusedCallsTest::feedAndPack));

    public static void main(String[] args) {
        state("new", RotationPress::new);
        state("three bytes", () -> Due.fed(10, 20, 30));
        state("10220 bytes", () -> Due.filled(97, FULL - 20));
        state("10221 bytes", () -> Due.filled(97, FULL - 19));
        state("a full tape", () -> Due.filled(97, FULL));
        state("a packed block", () -> packed(Due.bytes("abracadabra")));
        state("a packed block and a tape", () -> behind(packed(Due.bytes("abracadabra")), 1, 2, 3));
        state("packed blocks", () -> packed(Due.randomRuns(new java.util.Random(31), 900, 200, 6)));
        state("nothing packed", () -> behind(packed(), 7));
        state("an out that is just short enough", () -> behind(Due.unpacked(5, FULL), 8, 9));
        state("an out that is too long", () -> behind(Due.unpacked(5, FULL + 1), 8, 9));
        state("the longest out", () -> behind(Due.unpacked(5, 60000), 8, 9));
        state("a fault at bit 16", () -> behind(faulty(), 82, 80, 49));
        state("packed behind a fault", RefusedCallsTest::packedBehindFault);
        state("unpacked behind a pack", RefusedCallsTest::unpackedBehindPack);
        state("a packed file on the tape", () -> Due.fed(Reference.pack(Due.bytes("to be unpacked"), 2)));
        Due.finish();
    }

    private static RotationPress packed(int... bytes) {
        RotationPress press = Due.fed(bytes);
        press.pack(1);
        return press;
    }

    private static RotationPress behind(RotationPress press, int... bytes) {
        Due.feed(press, bytes);
        return press;
    }

    private static RotationPress faulty() {
        RotationPress press = Due.fed(82, 80, 0);
        press.unpack(0);
        return press;
    }

    private static RotationPress packedBehindFault() {
        RotationPress press = behind(faulty(), Due.bytes("behind a fault"));
        press.pack(9);
        return behind(press, 4, 4, 4, 4, 4);
    }

    private static RotationPress unpackedBehindPack() {
        RotationPress press = packed(Due.bytes("unpacked"));
        press.copy();
        press.unpack(8);
        return behind(press, 6);
    }

    private static void copyAndUnpack(RotationPress press) {
        if (press.size() <= FULL) {
            press.copy();
        }
        press.unpack(60000);
    }

    private static void feedAndPack(RotationPress press) {
        if (press.length() > FULL - 20) {
            press.end(FULL - 20);
        }
        press.feed(LEAST, GREATEST, -1, 0, 1);
        press.pack(2);
    }

    private static void state(String name, Supplier<RotationPress> maker) {
        List<Refused> all = refused(maker.get());
        for (Later later : LATERS) {
            int[] want = answers(maker.get(), later);
            for (Refused call : all) {
                RotationPress press = maker.get();
                Due.fails(name + ": " + call.name(), call.kind(), () -> call.call().accept(press));
                Due.same(name + ": " + call.name() + ", then " + later.name(), answers(press, later), want);
            }
            RotationPress press = maker.get();
            for (int times = 0; times < 2; times++) {
                for (Refused call : all) {
                    Due.fails(name + ": " + call.name() + " among all", call.kind(), () -> call.call().accept(press));
                }
            }
            Due.same(name + ": all, then " + later.name(), answers(press, later), want);
        }
    }

    /** Every call that is refused in this object's state, at both ends of what is taken and of an int. */
    private static List<Refused> refused(RotationPress press) {
        List<Refused> all = new ArrayList<>();
        int length = press.length();
        int size = press.size();
        if (length > FULL - 20) {
            all.add(new Refused("feed", STATE, p -> p.feed(1, 2, 3, 4, 5)));
        }
        for (int n : new int[] {-1, LEAST, length + 1, GREATEST}) {
            all.add(new Refused("end " + n, ARGUMENT, p -> p.end(n)));
        }
        for (int i : new int[] {-1, LEAST, length, GREATEST}) {
            for (int b : new int[] {0, 255, -1, 256}) {
                all.add(new Refused("alter " + i + " " + b, INDEX, p -> p.alter(i, b)));
            }
        }
        for (int b : length == 0 ? new int[0] : new int[] {-1, 256, LEAST, GREATEST}) {
            all.add(new Refused("alter 0 " + b, ARGUMENT, p -> p.alter(0, b)));
            all.add(new Refused("alter the last " + b, ARGUMENT, p -> p.alter(length - 1, b)));
        }
        if (size > FULL) {
            all.add(new Refused("copy", STATE, RotationPress::copy));
        }
        for (int level : new int[] {0, 10, -1, LEAST, GREATEST}) {
            all.add(new Refused("pack " + level, ARGUMENT, p -> p.pack(level)));
        }
        for (int limit : new int[] {-1, 60001, LEAST, GREATEST}) {
            all.add(new Refused("unpack " + limit, ARGUMENT, p -> p.unpack(limit)));
        }
        for (int i : new int[] {-1, LEAST, size, GREATEST}) {
            all.add(new Refused("out " + i, INDEX, p -> p.out(i)));
        }
        for (int which : new int[] {-1, 11, LEAST, GREATEST}) {
            all.add(new Refused("piece " + which, ARGUMENT, p -> p.piece(which, 0)));
        }
        for (int what : new int[] {-1, 8, LEAST, GREATEST}) {
            all.add(new Refused("about " + what, ARGUMENT, p -> p.about(what)));
        }
        return all;
    }

    /** All that the object tells: at once, and behind some later calls. */
    private static int[] answers(RotationPress press, Later later) {
        int[] before = answers(press);
        later.calls().accept(press);
        return Due.joined(before, answers(press));
    }

    private static int[] answers(RotationPress press) {
        List<Integer> all = new ArrayList<>(List.of(press.length(), press.size(), press.place()));
        for (int what = 0; what <= 7; what++) {
            all.add(press.about(what));
        }
        for (int which = 0; which <= 10; which++) {
            int i = 0;
            for (; i < 2252 && press.piece(which, i) != RotationPress.NONE; i++) {
                all.add(press.piece(which, i));
            }
            all.add(i);
        }
        return Due.joined(Reference.row(all), Due.tape(press), Due.out(press));
    }
}
