/** Promises 7 to 9. */
public final class DeviceTest {
    public static void main(String[] args) {
        Checks.test("1024 BYTES: the first and the last one", DeviceTest::edgesOfDevice);
        Checks.test("peek: if it is not 0 .. 1023: below", DeviceTest::peekTooSmall);
        Checks.test("peek: if it is not 0 .. 1023: above", DeviceTest::peekTooLarge);
        Checks.test("peek: nothing changes", DeviceTest::peekKeepsMount);
        Checks.test("poke: the lowest 8 bits: 0 and 255", () -> poked(0, 0, 255, 255));
        Checks.test("poke: the lowest 8 bits: 256 and more", () -> poked(256, 0, 256 + 77, 77));
        Checks.test("poke: the lowest 8 bits: -1 and -256", () -> poked(-1, 255, -256, 0));
        Checks.test("poke: the lowest 8 bits: the edges of int",
                () -> poked(Integer.MIN_VALUE, 0, Integer.MAX_VALUE, 255));
        Checks.test("poke: a byte, not its neighbours", DeviceTest::neighbours);
        Checks.test("poke: nothing is mounted then", DeviceTest::pokeUnmounts);
        Checks.test("poke: nothing is mounted then: the byte as it was", DeviceTest::samePokeUnmounts);
        Checks.test("poke: if it is not 0 .. 1023: below", DeviceTest::pokeTooSmall);
        Checks.test("poke: if it is not 0 .. 1023: above", DeviceTest::pokeTooLarge);
        Checks.test("poke: if it is not 0 .. 1023: nothing comes of it", DeviceTest::refusedPoke);
        Checks.test("poke: the tree stays", DeviceTest::pokeKeepsTree);
        Checks.test("seal: block 0 gets its check anew: all bytes 0", DeviceTest::sealZeros);
        Checks.test("seal: block 0 gets its check anew: all bytes 255", DeviceTest::sealMost);
        Checks.test("seal: if it was 32768 or more before: just 32768", () -> sealed(27, 115, "167 252"));
        Checks.test("seal: if it was 32768 or more before: just 32767", () -> sealed(0, 44, "138 245"));
        Checks.test("seal: the CHECK of bytes 0 .. 13: each counts", DeviceTest::sealEach);
        Checks.test("seal: the CHECK of bytes 0 .. 13: 14 and 15 do not", DeviceTest::sealAgain);
        Checks.test("seal: the CHECK of bytes 0 .. 13: those behind block 0 do not", DeviceTest::sealOthers);
        Checks.test("seal: other bytes stay", DeviceTest::sealKeeps);
        Checks.test("seal: nothing is mounted then", DeviceTest::sealUnmounts);
        Checks.end();
    }

    private static Checks.Call poke(PackedImage x, int at) {
        return Checks.of(() -> x.poke(at, 1));
    }

    private static void edgesOfDevice() {
        PackedImage x = new PackedImage();
        x.poke(0, 11);
        x.poke(1023, 22);
        Checks.same("byte 0", x.peek(0), 11);
        Checks.same("byte 1023", x.peek(1023), 22);
    }

    private static void peekTooSmall() {
        PackedImage x = new PackedImage();
        Checks.outOfBounds("-1", () -> x.peek(-1));
        Checks.outOfBounds("-1024", () -> x.peek(-1024));
        Checks.outOfBounds("the least int", () -> x.peek(Integer.MIN_VALUE));
    }

    private static void peekTooLarge() {
        PackedImage x = new PackedImage();
        Checks.outOfBounds("1024", () -> x.peek(1024));
        Checks.outOfBounds("the largest int", () -> x.peek(Integer.MAX_VALUE));
    }

    private static void peekKeepsMount() {
        PackedImage x = Images.mountedFile("a".repeat(40), 4);
        x.read(1, 0);
        x.peek(3);
        Checks.outOfBounds("1024", () -> x.peek(1024));
        Checks.same("kind", x.stat(1, 0), 1);
        Checks.same("misses", x.cache(false), 1);
    }

    private static void poked(int first, int dueFirst, int second, int dueSecond) {
        PackedImage x = new PackedImage();
        x.poke(7, 99);
        x.poke(7, first);
        x.poke(8, second);
        Checks.same("of " + first, x.peek(7), dueFirst);
        Checks.same("of " + second, x.peek(8), dueSecond);
    }

    private static void neighbours() {
        PackedImage x = new PackedImage();
        Images.lay(x, 99, 1, 2, 3);
        x.poke(100, 255);
        Checks.sameText("three bytes", Images.bytes(x, 99, 3), "1 255 3");
    }

    private static void pokeUnmounts() {
        PackedImage x = Images.mountedFile("a".repeat(40), 4);
        x.read(1, 0);
        x.poke(1000, 1);
        Checks.illegalState("stat", () -> x.stat(0, 0));
        Checks.illegalState("read", () -> x.read(0, 0));
        Checks.illegalState("find", () -> x.find(0, 'f'));
        Checks.illegalState("resolve", () -> x.resolve(0));
        Checks.illegalState("check", () -> x.check());
        Checks.same("misses", x.cache(false), 0);
        Checks.same("it can be mounted again", x.mount(), 2);
    }

    private static void samePokeUnmounts() {
        PackedImage x = Images.mountedFile("", 0);
        x.poke(0, 225);
        Checks.illegalState("stat", () -> x.stat(0, 0));
    }

    private static void pokeTooSmall() {
        PackedImage x = new PackedImage();
        Checks.outOfBounds("-1", poke(x, -1));
        Checks.outOfBounds("-1024", poke(x, -1024));
        Checks.outOfBounds("the least int", poke(x, Integer.MIN_VALUE));
    }

    private static void pokeTooLarge() {
        PackedImage x = new PackedImage();
        Checks.outOfBounds("1024", poke(x, 1024));
        Checks.outOfBounds("the largest int", poke(x, Integer.MAX_VALUE));
    }

    private static void refusedPoke() {
        PackedImage x = Images.mountedFile("old", 0);
        Checks.outOfBounds("-1", poke(x, -1));
        Checks.outOfBounds("1024", poke(x, 1024));
        Checks.same("it is mounted still", x.stat(1, 2), 3);
        Checks.same("byte 0", x.peek(0), 225);
        Checks.same("byte 1023", x.peek(1023), 0);
    }

    private static void pokeKeepsTree() {
        PackedImage x = Images.mountedFile("old", 0);
        x.poke(48, 'O');
        x.mount();
        Checks.sameText("what was poked is read", Images.data(x, 1), "Old");
        x.build(0);
        x.mount();
        Checks.sameText("the tree is built anew", Images.data(x, 1), "old");
    }

    private static void sealZeros() {
        PackedImage x = new PackedImage();
        x.seal();
        Checks.sameText("the check", Images.bytes(x, 14, 2), "169 106");
    }

    private static void sealMost() {
        PackedImage x = new PackedImage();
        for (int at = 0; at < 16; at++) {
            x.poke(at, 255);
        }
        x.seal();
        Checks.sameText("the check", Images.bytes(x, 14, 2), due(x));
    }

    /** Two bytes with which the check comes to that number on its way. */
    private static void sealed(int first, int second, String due) {
        PackedImage x = new PackedImage();
        Images.lay(x, 0, first, second);
        x.seal();
        Checks.sameText("the check", Images.bytes(x, 14, 2), due);
    }

    private static void sealEach() {
        PackedImage x = new PackedImage();
        for (int at = 0; at < 14; at++) {
            x.poke(at, 200 - 3 * at);
            x.seal();
            Checks.sameText("with byte " + at, Images.bytes(x, 14, 2), due(x));
        }
    }

    private static void sealAgain() {
        PackedImage x = new PackedImage();
        Images.lay(x, 14, 12, 34);
        x.seal();
        Checks.sameText("the check", Images.bytes(x, 14, 2), "169 106");
        x.seal();
        Checks.sameText("the check again", Images.bytes(x, 14, 2), "169 106");
    }

    private static void sealOthers() {
        PackedImage x = new PackedImage();
        Images.lay(x, 16, 1, 2, 3);
        x.poke(1023, 4);
        x.seal();
        Checks.sameText("the check", Images.bytes(x, 14, 2), "169 106");
    }

    private static void sealKeeps() {
        PackedImage x = new PackedImage();
        for (int at = 0; at < 20; at++) {
            x.poke(at, 100 + at);
        }
        x.poke(1023, 9);
        x.seal();
        Checks.sameText("before it", Images.bytes(x, 0, 14), "100 101 102 103 104 105 106 107 108 109 110 111 112 113");
        Checks.sameText("behind it", Images.bytes(x, 16, 5), "116 117 118 119 0");
        Checks.same("the last byte", x.peek(1023), 9);
    }

    private static void sealUnmounts() {
        PackedImage x = Images.mountedFile("a".repeat(40), 4);
        x.read(1, 0);
        x.seal();
        Checks.illegalState("check", () -> x.check());
        Checks.illegalState("stat", () -> x.stat(0, 0));
        Checks.same("misses", x.cache(false), 0);
        Checks.same("it can be mounted again", x.mount(), 2);
    }

    /** The check by a division of polynomials, bit by bit, told otherwise than in the document. */
    private static String due(PackedImage x) {
        long rest = 0xFFFF;
        for (int at = 0; at < 14; at++) {
            int b = x.peek(at);
            for (int bit = 7; bit >= 0; bit--) {
                boolean over = (rest >> 15 & 1) != (b >> bit & 1);
                rest = rest << 1 & 0xFFFF;
                if (over) {
                    rest ^= 0x1021;
                }
            }
        }
        return (rest >> 8) + " " + (rest & 255);
    }
}
