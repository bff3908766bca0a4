/** To mount: block 0 and which inodes there are; and promise 10. */
public final class MountTest {
    public static void main(String[] args) {
        Checks.test("225, 245: byte 0 below and above", () -> refused(0, 224, 226, 0));
        Checks.test("225, 245: byte 1 below and above", () -> refused(1, 244, 246, 0));
        Checks.test("225, 245: not in another order", MountTest::otherOrder);
        Checks.test("the check: the higher byte", () -> wrongCheck(14, 1));
        Checks.test("the check: the lower byte", () -> wrongCheck(15, 128));
        Checks.test("the check: of bytes 0 .. 13: the last one", () -> wrongCheck(13, 1));
        Checks.test("the check: a byte that says nothing, sealed", () -> taken(9, 200, 1));
        Checks.test("the check: bytes behind block 0 do not count", MountTest::behindHeader);
        Checks.test("flags 0 .. 7", MountTest::rightFlags);
        Checks.test("flags 0 .. 7: more", () -> refused(2, 8, 16, 128, 255));
        Checks.test("used blocks 1 .. 64: none", () -> refused(4, 0));
        Checks.test("used blocks 1 .. 64: one has no room for a slot", () -> refused(4, 1));
        Checks.test("used blocks 1 .. 64: 64", () -> taken(4, 64, 1));
        Checks.test("used blocks 1 .. 64: more", () -> refused(4, 65, 66, 128, 255));
        Checks.test("at least one slot: none", () -> refused(3, 0));
        Checks.test("at least one slot: one", () -> taken(3, 1, 1));
        Checks.test("all slots in used blocks: two in one block", () -> taken(3, 2, 2));
        Checks.test("all slots in used blocks: a third one is not", () -> refused(3, 3));
        Checks.test("all slots in used blocks: an odd one in the last block", () -> slots(5, 4));
        Checks.test("all slots in used blocks: 126 in 64 blocks", () -> slots(126, 64));
        Checks.test("all slots in used blocks: 125 in 64 blocks", () -> slots(125, 64));
        Checks.test("all slots in used blocks: 126 in 63 blocks", () -> noSlots(126, 63));
        Checks.test("all slots in used blocks: 127 in 64 blocks", () -> noSlots(127, 64));
        Checks.test("all slots in used blocks: 255 in 64 blocks", () -> noSlots(255, 64));
        Checks.test("behind each one at the next slot: short and long ones", MountTest::shortAndLong);
        Checks.test("behind each one at the next slot: second halves are none", MountTest::secondHalves);
        Checks.test("as long as it lies in the slots: a long one that does", MountTest::longAtEnd);
        Checks.test("as long as it lies in the slots: a long one that does not", MountTest::longBeyondEnd);
        Checks.test("as long as it lies in the slots: no inode at all", MountTest::noInode);
        Checks.test("as long as it lies in the slots: a long one in the last block", MountTest::longInLastBlock);
        Checks.test("how many inodes there are: bad ones, too", MountTest::badOnes);
        Checks.test("mounts the device: again", MountTest::again);
        Checks.test("cache empty, no hits, no misses", MountTest::emptiesCache);
        Checks.test("cache empty: of both clusters", MountTest::emptiesBoth);
        Checks.test("cache empty: what was poked is read", MountTest::readsAnew);
        Checks.test("if block 0 is not right (nothing is mounted then)", MountTest::nothingMounted);
        Checks.test("mounts the device: it does not change it", MountTest::keepsDevice);
        Checks.test("mounts the device: as it is, not the tree", MountTest::notTheTree);
        Checks.end();
    }

    private static PackedImage empty() {
        PackedImage x = new PackedImage();
        x.build(0);
        return x;
    }

    private static void refused(int at, int... bytes) {
        for (int b : bytes) {
            PackedImage x = empty();
            x.poke(at, b);
            x.seal();
            Checks.illegalState("byte " + at + " is " + b, () -> x.mount());
            Checks.illegalState("then stat", () -> x.stat(0, 0));
        }
    }

    private static void taken(int at, int b, int inodes) {
        PackedImage x = empty();
        x.poke(at, b);
        x.seal();
        Checks.same("byte " + at + " is " + b + ": inodes", x.mount(), inodes);
        Checks.same("then stat", x.stat(0, 0), 0);
    }

    private static void otherOrder() {
        PackedImage x = empty();
        Images.lay(x, 0, 245, 225);
        x.seal();
        Checks.illegalState("245, 225", () -> x.mount());
    }

    private static void wrongCheck(int at, int flipped) {
        PackedImage x = empty();
        x.poke(at, x.peek(at) ^ flipped);
        Checks.illegalState("byte " + at, () -> x.mount());
        x.seal();
        Checks.same("sealed", x.mount(), 1);
    }

    private static void behindHeader() {
        PackedImage x = empty();
        x.poke(16, 2);
        x.poke(1023, 255);
        Checks.same("inodes", x.mount(), 1);
        Checks.same("kind", x.stat(0, 0), 1);
    }

    private static void rightFlags() {
        for (int flags = 0; flags <= 7; flags++) {
            taken(2, flags, 1);
        }
    }

    /** So many short inodes. */
    private static void slots(int count, int used) {
        PackedImage x = new PackedImage();
        Images.header(x, count, used);
        Checks.same("inodes", x.mount(), count);
        Checks.same("the last one", x.stat(count - 1, 2), 0);
        Checks.outOfBounds("none behind it", () -> x.stat(count, 2));
    }

    private static void noSlots(int count, int used) {
        PackedImage x = new PackedImage();
        Images.header(x, count, used);
        Checks.illegalState("mount", () -> x.mount());
    }

    /** So many slots, those that are named begin with 1. */
    private static PackedImage withLong(int slots, int used, int... begun) {
        PackedImage x = new PackedImage();
        for (int slot : begun) {
            x.poke(16 + 8 * slot, 1);
        }
        Images.header(x, slots, used);
        return x;
    }

    private static void shortAndLong() {
        PackedImage x = withLong(6, 4, 1, 4);
        Checks.same("inodes", x.mount(), 4);
        for (int inode : new int[] {0, 1, 3, 4}) {
            Checks.same("inode " + inode, x.stat(inode, 2), 0);
        }
        for (int inode : new int[] {2, 5, 6}) {
            Checks.outOfBounds("no inode " + inode, () -> x.stat(inode, 2));
        }
    }

    private static void secondHalves() {
        PackedImage x = withLong(4, 3, 0, 1, 2, 3);
        Checks.same("inodes", x.mount(), 2);
        Checks.outOfBounds("1", () -> x.stat(1, 0));
        Checks.same("2", x.stat(2, 0), 0);
        Checks.outOfBounds("3", () -> x.stat(3, 0));
    }

    private static void longAtEnd() {
        PackedImage x = withLong(3, 3, 1);
        Checks.same("inodes", x.mount(), 2);
        Checks.same("the last one", x.stat(1, 0), 0);
    }

    private static void longBeyondEnd() {
        PackedImage x = withLong(5, 4, 0, 2, 4);
        Checks.same("inodes", x.mount(), 2);
        Checks.same("the last one", x.stat(2, 0), 0);
        Checks.outOfBounds("the one that is not whole", () -> x.stat(4, 0));
        PackedImage y = withLong(2, 2, 1);
        Checks.same("inodes, at the end of a block", y.mount(), 1);
        Checks.outOfBounds("the one that is not whole", () -> y.stat(1, 0));
    }

    private static void noInode() {
        PackedImage x = withLong(1, 2, 0);
        Checks.same("inodes", x.mount(), 0);
        Checks.outOfBounds("stat", () -> x.stat(0, 0));
        Checks.outOfBounds("read", () -> x.read(0, 0));
        Checks.outOfBounds("find", () -> x.find(0, 'a'));
        Checks.illegalState("resolve", () -> x.resolve(0));
        Checks.same("check", x.check(), -1);
    }

    private static void longInLastBlock() {
        PackedImage x = withLong(126, 64, 125);
        Checks.same("one that is not whole", x.mount(), 125);
        PackedImage y = withLong(126, 64, 124);
        Checks.same("one that is", y.mount(), 125);
        Checks.same("its size", y.stat(124, 2), 0);
        Checks.outOfBounds("its second half", () -> y.stat(125, 2));
    }

    private static void badOnes() {
        PackedImage x = new PackedImage();
        Images.lay(x, 16, 255, 0, 0, 0, 0, 0, 0, 0, 255);
        x.poke(32, 6);
        Images.header(x, 3, 3);
        Checks.same("inodes", x.mount(), 2);
        Checks.same("the first is bad", x.stat(0, 5), 1);
        Checks.same("the second is bad", x.stat(2, 5), 1);
    }

    private static void again() {
        PackedImage x = Images.mountedFile("x", 0);
        Checks.same("inodes", x.mount(), 2);
        Checks.same("inodes again", x.mount(), 2);
        Checks.same("kind", x.stat(1, 0), 1);
    }

    private static void emptiesCache() {
        PackedImage x = Images.mountedFile("a".repeat(40), 4);
        x.read(1, 0);
        x.read(1, 1);
        x.mount();
        Checks.same("hits", x.cache(true), 0);
        Checks.same("misses", x.cache(false), 0);
        x.read(1, 0);
        Checks.same("nothing was kept", x.cache(false), 1);
        Checks.same("hits then", x.cache(true), 0);
    }

    private static void emptiesBoth() {
        for (int first = 0; first < 30; first += 15) {
            PackedImage x = Images.mountedFile(Images.threeClusters(), 4);
            x.read(1, 0);
            x.read(1, 15);
            x.mount();
            x.read(1, first);
            Checks.same("misses, from byte " + first + " on", x.cache(false), 1);
            x.read(1, 15 - first);
            Checks.same("misses of both", x.cache(false), 2);
            Checks.same("hits", x.cache(true), 0);
        }
    }

    private static void readsAnew() {
        PackedImage x = Images.mountedFile(Images.threeClusters(), 4);
        Checks.same("a byte", x.read(1, 0), 20);
        Checks.same("another one", x.read(1, 15), 40);
        x.poke(65, 77);
        x.poke(81, 88);
        x.mount();
        Checks.same("a byte now", x.read(1, 0), 77);
        Checks.same("another one now", x.read(1, 15), 88);
    }

    private static void nothingMounted() {
        PackedImage x = Images.mountedFile("a".repeat(40), 4);
        x.read(1, 0);
        x.poke(4, 99);
        Checks.illegalState("mount", () -> x.mount());
        Checks.illegalState("stat", () -> x.stat(0, 0));
        Checks.illegalState("read", () -> x.read(1, 0));
        Checks.illegalState("find", () -> x.find(0, 'f'));
        Checks.illegalState("resolve", () -> x.resolve(0));
        Checks.illegalState("check", () -> x.check());
        Checks.same("misses", x.cache(false), 0);
        Checks.same("the byte stays", x.peek(4), 99);
        x.poke(4, 5);
        Checks.same("mended", x.mount(), 2);
        Checks.same("misses then", x.cache(false), 0);
    }

    private static void keepsDevice() {
        PackedImage x = Images.withFile("hello");
        x.build(0);
        String before = Images.bytes(x, 0, 80);
        x.mount();
        Checks.sameText("its bytes", Images.bytes(x, 0, 80), before);
    }

    private static void notTheTree() {
        PackedImage x = Images.withFile("hello");
        x.build(0);
        x.unlink(0, 'f');
        Checks.same("inodes", x.mount(), 2);
        Checks.sameText("the file's data", Images.data(x, 1), "hello");
    }
}
