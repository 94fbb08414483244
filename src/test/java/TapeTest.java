import java.util.Arrays;

/** Promises 1 to 5 and 9 to 11: a new object, the tape, and the out. */
public final class TapeTest {
    private static final Class<IllegalStateException> STATE = IllegalStateException.class;
    private static final Class<IllegalArgumentException> ARGUMENT = IllegalArgumentException.class;
    private static final Class<IndexOutOfBoundsException> INDEX = IndexOutOfBoundsException.class;

    public static void main(String[] args) {
        newObject();
        feeding();
        fullTape();
        ending();
        altering();
        copying();
        copyTooLong();
        objectsApart();
        Due.finish();
    }

    private static void newObject() {
        RotationPress press = new RotationPress();
        Due.same("new length", press.length(), 0);
        Due.same("new size", press.size(), 0);
        Due.same("new place", press.place(), RotationPress.NONE);
        for (int which = 0; which <= 10; which++) {
            Due.same("new piece " + which, press.piece(which, 0), RotationPress.NONE);
        }
        for (int what = 0; what <= 7; what++) {
            Due.same("new about " + what, press.about(what), 0);
        }
        Due.fails("new out(0)", INDEX, () -> press.out(0));
        Due.fails("new alter(0, 0)", INDEX, () -> press.alter(0, 0));
        Due.fails("new end(1)", ARGUMENT, () -> press.end(1));
        press.end(0);
        Due.same("new copy", press.copy(), 0);
    }

    private static void feeding() {
        RotationPress press = new RotationPress();
        Due.same("feed", press.feed(0x01020304, 0x7f80ff00, -1, 0x80000000, 0xfedcba98), 20);
        int[] want = {1, 2, 3, 4, 127, 128, 255, 0, 255, 255, 255, 255, 128, 0, 0, 0, 254, 220, 186, 152};
        for (int i = 0; i < 20; i++) {
            Due.same("byte " + i, press.alter(i, 7), want[i]);
        }
        press.end(13);
        Due.same("feed behind 13", press.feed(0x0a000000, 0, 0, 0, 5), 33);
        Due.same("length", press.length(), 33);
        Due.same("byte 12 stays", press.alter(12, 0), 7);
        Due.same("byte 13 is new", press.alter(13, 0), 10);
        Due.same("byte 32 is new", press.alter(32, 0), 5);
    }

    private static void fullTape() {
        RotationPress press = new RotationPress();
        for (int n = 1; n <= 512; n++) {
            Due.same("feed " + n, press.feed(n, n, n, n, n), 20 * n);
        }
        Due.fails("feed to a full tape", STATE, () -> press.feed(1, 2, 3, 4, 5));
        Due.same("length of a full tape", press.length(), 10240);
        Due.same("last byte of a full tape", press.alter(10239, 1), 0);
        press.end(10221);
        Due.fails("feed 20 to 10221", STATE, () -> press.feed(1, 2, 3, 4, 5));
        Due.same("length stays", press.length(), 10221);
        press.end(10220);
        Due.same("feed 20 to 10220", press.feed(1, 2, 3, 4, 5), 10240);
    }

    private static void ending() {
        RotationPress press = Due.fed(Due.bytes("twenty bytes, and six more"));
        Due.fails("end(27)", ARGUMENT, () -> press.end(27));
        Due.fails("end(-1)", ARGUMENT, () -> press.end(-1));
        Due.fails("end(least)", ARGUMENT, () -> press.end(Integer.MIN_VALUE));
        Due.fails("end(greatest)", ARGUMENT, () -> press.end(Integer.MAX_VALUE));
        Due.same("length stays", press.length(), 26);
        press.end(26);
        Due.same("end(26)", press.length(), 26);
        press.end(6);
        Due.same("end(6)", press.length(), 6);
        Due.fails("end(7) then", ARGUMENT, () -> press.end(7));
        Due.same("byte 5", press.alter(5, 0), 'y');
        Due.fails("byte 6", INDEX, () -> press.alter(6, 0));
        press.end(0);
        Due.same("end(0)", press.length(), 0);
    }

    private static void altering() {
        RotationPress press = Due.fed(10, 20, 30);
        Due.same("alter", press.alter(1, 255), 20);
        Due.same("alter again", press.alter(1, 0), 255);
        Due.same("alter to 0", press.alter(1, 9), 0);
        Due.fails("alter to 256", ARGUMENT, () -> press.alter(1, 256));
        Due.fails("alter to -1", ARGUMENT, () -> press.alter(1, -1));
        Due.fails("alter 3", INDEX, () -> press.alter(3, 0));
        Due.fails("alter -1", INDEX, () -> press.alter(-1, 0));
        Due.fails("both wrong: the index first", INDEX, () -> press.alter(3, 256));
        Due.fails("both wrong, far out", INDEX, () -> press.alter(Integer.MIN_VALUE, Integer.MAX_VALUE));
        Due.same("nothing changed", press.alter(1, 1), 9);
        Due.same("the first", press.alter(0, 1), 10);
        Due.same("the last", press.alter(2, 1), 30);
        Due.same("length", press.length(), 3);
    }

    private static void copying() {
        RotationPress press = Due.fed(Due.bytes("abracadabra"));
        int n = press.pack(3);
        Due.same("the tape is used up", press.length(), 0);
        Due.same("size", press.size(), n);
        int[] packed = Due.out(press);
        Due.fails("out behind", INDEX, () -> press.out(n));
        Due.fails("out(-1)", INDEX, () -> press.out(-1));
        Due.fails("out(greatest)", INDEX, () -> press.out(Integer.MAX_VALUE));
        Due.feed(press, Due.times(1, 200));
        Due.same("copy", press.copy(), n);
        Due.same("length", press.length(), n);
        Due.same("the out stays", Due.out(press), packed);
        for (int i = 0; i < n; i++) {
            Due.same("tape " + i, press.alter(i, 0), packed[i]);
        }
        Due.same("the out is apart from the tape", Due.out(press), packed);
        Due.same("copy again", press.copy(), n);
        Due.same("unpack", press.unpack(11), 11);
        Due.same("unpacked", Due.out(press), Due.bytes("abracadabra"));
        Due.same("the tape is used up again", press.length(), 0);
        Due.same("copy the bytes", press.copy(), 11);
        Due.same("unpack what is not packed", press.unpack(11), -1);
        Due.same("nothing out", press.size(), 0);
        Due.feed(press, 5);
        Due.same("copy nothing", press.copy(), 0);
        Due.same("nothing on the tape", press.length(), 0);
    }

    private static void copyTooLong() {
        for (int n : new int[] {10239, 10240, 10241, 60000}) {
            RotationPress press = Due.fed(Reference.pack(Due.times(66, n), 9));
            Due.same("unpack " + n, press.unpack(60000), n);
            Due.feed(press, 1, 2, 3);
            if (n <= 10240) {
                Due.same("copy " + n, press.copy(), n);
                Due.same("length", press.length(), n);
            } else {
                Due.fails("copy " + n, STATE, press::copy);
                Due.same("the tape stays", press.length(), 3);
                Due.same("its bytes stay", press.alter(2, 0), 3);
            }
            Due.same("the out stays", press.size(), n);
            Due.same("its last byte", press.out(n - 1), 66);
        }
    }

    private static void objectsApart() {
        RotationPress one = Due.fed(Due.bytes("one"));
        RotationPress two = Due.fed(Due.bytes("two, and more"));
        one.pack(1);
        two.pack(9);
        int[] first = Due.out(one);
        Due.same("each has its own", Arrays.equals(first, Due.out(two)) ? 1 : 0, 0);
        one.copy();
        one.unpack(3);
        Due.same("one", Due.out(one), Due.bytes("one"));
        Due.same("pieces of two stay", two.piece(0, 0), 't');
    }
}
