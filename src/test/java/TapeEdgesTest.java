import java.util.Arrays;

/** Promises 1 to 5 and 9 to 11, sentence by sentence, at the edges that each names. */
public final class TapeEdgesTest {
    private static final Class<IllegalStateException> STATE = IllegalStateException.class;
    private static final Class<IllegalArgumentException> ARGUMENT = IllegalArgumentException.class;
    private static final Class<IndexOutOfBoundsException> INDEX = IndexOutOfBoundsException.class;
    private static final int LEAST = Integer.MIN_VALUE;
    private static final int GREATEST = Integer.MAX_VALUE;
    private static final int FULL = 10240;

    public static void main(String[] args) {
        nothingOnTheTape();
        nothingOut();
        highestFirst();
        behindTheTape();
        feedUpToFull();
        feedBeyondFull();
        endKeepsTheFirst();
        endTooMany();
        endBelowZero();
        alterFirstAndLast();
        alterWhereThereIsNone();
        alterToEveryByte();
        alterToNoByte();
        alterTellsTheIndexFirst();
        copyNothing();
        copyInPlaceOfAll();
        copyFull();
        copyTooMany();
        packUsesUp();
        unpackUsesUp();
        lengthFollows();
        sizeFollows();
        outFirstAndLast();
        outWhereThereIsNone();
        theLastCallCounts();
        Due.finish();
    }

    /** "Nothing on the tape": no call finds a byte there. */
    private static void nothingOnTheTape() {
        Due.same("length", new RotationPress().length(), 0);
        Due.fails("end(1)", ARGUMENT, () -> new RotationPress().end(1));
        Due.fails("alter(0, 0)", INDEX, () -> new RotationPress().alter(0, 0));
        Due.same("feed", new RotationPress().feed(1, 2, 3, 4, 5), 20);
        Due.same("pack", new RotationPress().pack(9), 8);
        RotationPress press = new RotationPress();
        Due.same("unpack", press.unpack(60000), -2);
        Due.same("place", press.place(), 0);
    }

    /** "nothing out". */
    private static void nothingOut() {
        Due.same("size", new RotationPress().size(), 0);
        Due.fails("out(0)", INDEX, () -> new RotationPress().out(0));
        Due.same("copy", new RotationPress().copy(), 0);
        Due.same("place before", new RotationPress().place(), RotationPress.NONE);
    }

    /** "the highest of each number first", also for numbers at both ends. */
    private static void highestFirst() {
        RotationPress press = new RotationPress();
        press.feed(LEAST, GREATEST, -1, 0, 1);
        tape("both ends", press, 128, 0, 0, 0, 127, 255, 255, 255, 255, 255, 255, 255, 0, 0, 0, 0, 0, 0, 0, 1);
        press.end(0);
        press.feed(0x80ff7f01, LEAST + 1, GREATEST - 1, -2, -256);
        tape("next to the ends", press,
                128, 255, 127, 1, 128, 0, 0, 1, 127, 255, 255, 254, 255, 255, 255, 254, 255, 255, 255, 0);
    }

    /** "Twenty bytes come behind the tape". */
    private static void behindTheTape() {
        for (int kept : new int[] {0, 1, 19, 20}) {
            RotationPress press = new RotationPress();
            press.feed(0x05050505, 0x05050505, 0x05050505, 0x05050505, 0x05050505);
            press.end(kept);
            Due.same("feed behind " + kept, press.feed(0x07070707, 0, 0, 0, 9), kept + 20);
            int[] want = Due.joined(Due.times(5, kept), Due.times(7, 4), Due.times(0, 15), Due.times(9, 1));
            tape("behind " + kept, press, want);
        }
    }

    /** "how many it has", up to 10240. */
    private static void feedUpToFull() {
        RotationPress press = new RotationPress();
        for (int n = 1; n <= 512; n++) {
            Due.same("feed " + n, press.feed(n, n, n, n, n), 20 * n);
        }
        for (int before : new int[] {10219, 10220}) {
            RotationPress nearly = Due.filled(3, before);
            Due.same("feed behind " + before, nearly.feed(1, 2, 3, 4, GREATEST), before + 20);
            Due.same("its last byte", nearly.alter(before + 19, 0), 255);
        }
    }

    /** "IllegalStateException: there would be more than 10240": also if some would fit. */
    private static void feedBeyondFull() {
        for (int before = 10221; before <= FULL; before++) {
            RotationPress press = Due.filled(3, before);
            Due.fails("feed behind " + before, STATE, () -> press.feed(0, 0, 0, 0, 0));
            Due.same("length stays " + before, press.length(), before);
            tape("the tape stays " + before, press, Due.times(3, before));
        }
    }

    /** "The tape keeps its first n bytes", from none of them to all. */
    private static void endKeepsTheFirst() {
        int[] bytes = Due.bytes("keeps its first bytes");
        for (int n = 0; n <= bytes.length; n++) {
            RotationPress press = Due.fed(bytes);
            press.end(n);
            Due.same("end " + n, press.length(), n);
            tape("end " + n, press, Arrays.copyOf(bytes, n));
        }
        RotationPress empty = new RotationPress();
        empty.end(0);
        Due.same("end(0) of nothing", empty.length(), 0);
        RotationPress full = Due.filled(8, FULL);
        full.end(FULL);
        Due.same("end(10240)", full.length(), FULL);
        full.end(FULL - 1);
        Due.same("end(10239)", full.length(), FULL - 1);
    }

    /** "IllegalArgumentException: it has not so many". */
    private static void endTooMany() {
        for (int has : new int[] {0, 1, 20, 21, FULL}) {
            for (int n : new int[] {has + 1, has + 2, FULL + 1, GREATEST - 1, GREATEST}) {
                RotationPress press = Due.filled(6, has);
                Due.fails("end " + n + " of " + has, ARGUMENT, () -> press.end(n));
                tape("the tape stays", press, Due.times(6, has));
            }
        }
        RotationPress cut = Due.fed(1, 2, 3);
        cut.end(2);
        Due.fails("what was cut off is not there", ARGUMENT, () -> cut.end(3));
    }

    /** "or n is below 0". */
    private static void endBelowZero() {
        for (int has : new int[] {0, 1, FULL}) {
            for (int n : new int[] {-1, -2, -FULL, LEAST + 1, LEAST}) {
                RotationPress press = Due.filled(6, has);
                Due.fails("end " + n + " of " + has, ARGUMENT, () -> press.end(n));
                tape("the tape stays", press, Due.times(6, has));
            }
        }
    }

    /** "Byte i of the tape becomes b: what it was": the first one and the last one, and no other. */
    private static void alterFirstAndLast() {
        RotationPress press = Due.fed(10, 20, 30);
        Due.same("alter(0)", press.alter(0, 11), 10);
        Due.same("alter(2)", press.alter(2, 33), 30);
        tape("both became so", press, 11, 20, 33);
        RotationPress one = Due.fed(77);
        Due.same("alter(0) of one", one.alter(0, 78), 77);
        tape("one", one, 78);
        RotationPress full = Due.filled(4, FULL);
        Due.same("alter(10239)", full.alter(FULL - 1, 5), 4);
        Due.same("alter(10239) again", full.alter(FULL - 1, 5), 5);
        Due.same("alter(10238)", full.alter(FULL - 2, 5), 4);
    }

    /** "IndexOutOfBoundsException: there is none". */
    private static void alterWhereThereIsNone() {
        for (int has : new int[] {0, 1, 20, FULL}) {
            for (int i : new int[] {-1, LEAST, LEAST + 1, has, has + 1, FULL, GREATEST - 1, GREATEST}) {
                RotationPress press = Due.filled(6, has);
                Due.fails("alter " + i + " of " + has, INDEX, () -> press.alter(i, 0));
                tape("the tape stays", press, Due.times(6, has));
            }
        }
        RotationPress cut = Due.fed(1, 2, 3);
        cut.end(2);
        Due.fails("what was cut off is not there", INDEX, () -> cut.alter(2, 0));
        RotationPress used = Due.fed(1, 2, 3);
        used.pack(1);
        Due.fails("what was packed is not there", INDEX, () -> used.alter(0, 0));
    }

    /** A byte is 0 .. 255: each of them is taken. */
    private static void alterToEveryByte() {
        RotationPress press = Due.fed(99);
        int before = 99;
        for (int b = 0; b <= 255; b++) {
            Due.same("alter to " + b, press.alter(0, b), before);
            before = b;
        }
        Due.same("back to 0", press.alter(0, 0), 255);
        tape("0", press, 0);
    }

    /** "IllegalArgumentException: b is not 0 .. 255". */
    private static void alterToNoByte() {
        for (int b : new int[] {-1, 256, 257, 511, 512, -255, -256, LEAST, LEAST + 1, GREATEST - 1, GREATEST}) {
            RotationPress press = Due.fed(1, 2, 3);
            for (int i = 0; i < 3; i++) {
                int at = i;
                Due.fails("alter to " + b, ARGUMENT, () -> press.alter(at, b));
            }
            tape("the tape stays", press, 1, 2, 3);
        }
    }

    /** "(first)": where both are wrong, the index is told. */
    private static void alterTellsTheIndexFirst() {
        RotationPress press = Due.fed(1, 2, 3);
        RotationPress empty = new RotationPress();
        for (int b : new int[] {-1, 256, LEAST, GREATEST}) {
            for (int i : new int[] {-1, 3, LEAST, GREATEST}) {
                Due.fails("alter " + i + " to " + b, INDEX, () -> press.alter(i, b));
            }
            Due.fails("alter an empty tape to " + b, INDEX, () -> empty.alter(0, b));
        }
        tape("the tape stays", press, 1, 2, 3);
    }

    /** "The out comes on the tape, in place of what is there": an empty out leaves nothing there. */
    private static void copyNothing() {
        RotationPress press = Due.filled(2, FULL);
        Due.same("an unpack with a fault", press.unpack(0), -1);
        Due.feed(press, 1, 2, 3);
        Due.same("copy nothing", press.copy(), 0);
        Due.same("nothing there", press.length(), 0);
        Due.fails("no byte there", INDEX, () -> press.alter(0, 0));
        Due.feed(press, Reference.pack(new int[0], 1));
        Due.same("unpack no block", press.unpack(0), 0);
        Due.feed(press, 4);
        Due.same("copy nothing again", press.copy(), 0);
        Due.same("nothing there again", press.length(), 0);
    }

    /** "in place of what is there: how many bytes", over a shorter and over a longer tape. */
    private static void copyInPlaceOfAll() {
        for (int before : new int[] {0, 1, 7, 8, 9, 300}) {
            RotationPress press = new RotationPress();
            press.pack(7);
            Due.feed(press, Due.times(1, before));
            Due.same("copy over " + before, press.copy(), 8);
            Due.same("size stays", press.size(), 8);
            Due.same("the out stays", press.out(2), 55);
            tape("copied over " + before, press, 82, 80, 55, 0, 0, 0, 0, 0);
        }
    }

    /** 10240 bytes of the out are taken, over a full tape too. */
    private static void copyFull() {
        for (int n : new int[] {FULL - 1, FULL}) {
            RotationPress press = Due.unpacked(9, n);
            Due.feed(press, Due.times(1, FULL - 20));
            press.feed(1, 1, 1, 1, 1);
            Due.same("copy " + n, press.copy(), n);
            Due.same("length " + n, press.length(), n);
            tape("copied " + n, press, Due.times(9, n));
        }
    }

    /** "IllegalStateException: it has more than 10240". */
    private static void copyTooMany() {
        for (int n : new int[] {FULL + 1, FULL + 2, 16384, 16385, 60000}) {
            RotationPress press = Due.unpacked(9, n);
            Due.fails("copy " + n + " over nothing", STATE, press::copy);
            Due.same("still nothing", press.length(), 0);
            Due.feed(press, 1, 2, 3);
            Due.fails("copy " + n, STATE, press::copy);
            tape("the tape stays", press, 1, 2, 3);
            Due.same("the out stays", press.size(), n);
            Due.same("its last byte", press.out(n - 1), 9);
        }
    }

    /** "pack() and unpack() use it up": pack(), of nothing, of one byte and of a full tape. */
    private static void packUsesUp() {
        for (int n : new int[] {0, 1, FULL}) {
            RotationPress press = Due.filled(1, n);
            press.pack(9);
            Due.same("pack uses up " + n, press.length(), 0);
            Due.same("a pack then has nothing", press.pack(9), 8);
        }
    }

    /** unpack(), with and without a fault, uses the tape up. */
    private static void unpackUsesUp() {
        for (int n : new int[] {0, 1, FULL}) {
            RotationPress press = Due.filled(1, n);
            Due.same("unpack " + n, press.unpack(9), n == 0 ? -2 : -1);
            Due.same("a fault uses up " + n, press.length(), 0);
            Due.same("an unpack then has nothing", press.unpack(9), -2);
        }
        RotationPress right = Due.fed(Reference.pack(new int[] {1, 2}, 1));
        Due.same("unpack", right.unpack(2), 2);
        Due.same("a right file is used up", right.length(), 0);
    }

    /** "How many bytes the tape has." */
    private static void lengthFollows() {
        RotationPress press = new RotationPress();
        press.feed(1, 1, 1, 1, 1);
        Due.same("length behind feed", press.length(), 20);
        press.alter(19, 0);
        Due.same("length behind alter", press.length(), 20);
        press.end(7);
        Due.same("length behind end", press.length(), 7);
        press.copy();
        Due.same("length behind copy", press.length(), 0);
        Due.same("length of a full tape", Due.filled(0, FULL).length(), FULL);
    }

    /** "How many bytes the out has": the latest pack() or unpack() counts, the tape does not. */
    private static void sizeFollows() {
        RotationPress press = Due.unpacked(5, 60000);
        Due.same("60000", press.size(), 60000);
        press.feed(1, 1, 1, 1, 1);
        Due.same("feed leaves it", press.size(), 60000);
        press.end(0);
        Due.same("end leaves it", press.size(), 60000);
        Due.same("pack nothing", press.pack(1), 8);
        Due.same("8", press.size(), 8);
        press.unpack(0);
        Due.same("nothing behind a fault", press.size(), 0);
    }

    /** "Byte i of the out": the first, the last, the least and the greatest byte. */
    private static void outFirstAndLast() {
        int[] bytes = {255, 0, 128, 127};
        RotationPress press = Due.fed(Reference.pack(bytes, 1));
        press.unpack(4);
        Due.same("the out", Due.out(press), bytes);
        RotationPress long60000 = Due.unpacked(255, 60000);
        Due.same("out(0)", long60000.out(0), 255);
        Due.same("out(59999)", long60000.out(59999), 255);
    }

    /** "IndexOutOfBoundsException: there is none." */
    private static void outWhereThereIsNone() {
        for (int n : new int[] {0, 1, 4, 16384, 60000}) {
            RotationPress press = Due.unpacked(1, n);
            for (int i : new int[] {-1, LEAST, LEAST + 1, n, n + 1, 60000, GREATEST - 1, GREATEST}) {
                Due.fails("out " + i + " of " + n, INDEX, () -> press.out(i));
            }
        }
        RotationPress shorter = Due.unpacked(1, 50);
        shorter.pack(1);
        Due.fails("what a longer out had is not there", INDEX, () -> shorter.out(8));
        shorter.unpack(0);
        Due.fails("behind a fault there is none", INDEX, () -> shorter.out(0));
    }

    /** "at most 512 calls": the last of them answers as the first ones do. */
    private static void theLastCallCounts() {
        RotationPress press = new RotationPress();
        for (int n = 1; n <= 510; n++) {
            press.feed(n, n, n, n, n);
        }
        int size = press.pack(9);
        int[] bytes = new int[10200];
        for (int i = 0; i < bytes.length; i++) {
            int n = i / 20 + 1;
            bytes[i] = i % 4 < 2 ? 0 : i % 4 == 2 ? n / 256 : n % 256;
        }
        int[] want = Reference.pack(bytes, 9);
        Due.same("call 511", size, want.length);
        Due.same("call 512", press.out(size - 1), want[size - 1]);
    }

    /** The tape's bytes, by altering each to itself. */
    private static void tape(String what, RotationPress press, int... want) {
        Due.same(what, Due.tape(press), want);
    }
}
