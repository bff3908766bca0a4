/** Promise 12. */
public final class ReadTest {
    public static void main(String[] args) {
        Checks.test("a byte of its data: all layouts", ReadTest::layouts);
        Checks.test("a byte of its data: of a directory", ReadTest::ofDirectory);
        Checks.test("a byte of its data: of a link", ReadTest::ofLink);
        Checks.test("a byte of its data: at the edges of blocks", ReadTest::acrossBlocks);
        Checks.test("a byte of its data: at the edges of the tail", ReadTest::acrossTail);
        Checks.test("a byte of its data: at the edges of clusters", ReadTest::acrossClusters);
        Checks.test("a byte of its data: 11 clusters", ReadTest::elevenClusters);
        Checks.test("a byte of its data: of inode 118", ReadTest::largeNumber);
        Checks.test("a byte of its data: byte 254", ReadTest::largest);
        Checks.test("a byte of its data: the last byte of the device", ReadTest::lastOfDevice);
        Checks.test("a byte of its data: a TAILED directory and link", ReadTest::tailsOfAllKinds);
        Checks.test("if nothing is mounted", ReadTest::notMounted);
        Checks.test("if there is no such inode", ReadTest::noInode);
        Checks.test("if there is no such inode: the second slot of a long one", ReadTest::secondSlot);
        Checks.test("if it is bad", ReadTest::badInode);
        Checks.test("if there is no such byte: below", ReadTest::byteTooSmall);
        Checks.test("if there is no such byte: above", ReadTest::byteTooLarge);
        Checks.test("if there is no such byte: none at all", ReadTest::empty);
        Checks.test("if there is no such byte: the 0 that fills a block up", ReadTest::filledUp);
        Checks.test("if its cluster is bad", ReadTest::badCluster);
        Checks.test("if its cluster is bad: others are not", ReadTest::otherClusters);
        Checks.test("the first of these: nothing is mounted, no such inode", ReadTest::mountFirst);
        Checks.test("the first of these: no such inode, no such byte", ReadTest::inodeFirst);
        Checks.test("the first of these: it is bad, no such byte", ReadTest::badFirst);
        Checks.test("the first of these: no such byte, its cluster is bad", ReadTest::byteFirst);
        Checks.end();
    }

    private static void layouts() {
        String[] contents = {"", "x", "abcd", "abcde", Images.unlike(16, 1), Images.unlike(28, 1),
            Images.unlike(29, 1), Images.unlike(60, 1), "ab".repeat(30), "abcabcd".repeat(8), "\0".repeat(60)};
        for (int flags = 0; flags < 8; flags++) {
            for (String content : contents) {
                PackedImage x = Images.mountedFile(content, flags);
                Checks.sameText("with flags " + flags, Images.data(x, 1), content);
                Checks.same("check with flags " + flags, x.check(), -1);
            }
        }
    }

    private static void ofDirectory() {
        PackedImage x = Images.mountedFile("", 0);
        Checks.sameText("its entries", Images.data(x, 0), "f\1\1");
    }

    private static void ofLink() {
        PackedImage x = new PackedImage();
        Images.link(x, 0, 'l', "path");
        x.build(0);
        x.mount();
        Checks.sameText("its path", Images.data(x, 1), "path");
    }

    private static void acrossBlocks() {
        PackedImage x = Images.mountedFile(Images.unlike(60, 1), 0);
        for (int at : new int[] {0, 15, 16, 31, 32, 47, 48, 59}) {
            Checks.same("byte " + at, x.read(1, at), at + 1);
        }
    }

    private static void acrossTail() {
        PackedImage x = Images.mountedFile(Images.unlike(44, 1), 1);
        Checks.same("TAILED", x.stat(1, 1), 1);
        for (int at : new int[] {0, 15, 16, 31, 32, 43}) {
            Checks.same("byte " + at, x.read(1, at), at + 1);
        }
    }

    private static void acrossClusters() {
        PackedImage x = Images.mountedFile(Images.threeClusters(), 4);
        int[][] due = {{0, 20}, {14, 34}, {15, 40}, {29, 54}, {30, 'a'}, {59, 'a'}};
        for (int[] row : due) {
            Checks.same("byte " + row[0], x.read(1, row[0]), row[1]);
        }
    }

    /** Each cluster is one literal. */
    private static void elevenClusters() {
        PackedImage x = new PackedImage();
        Images.lay(x, 16, Images.LONG | Images.FILE | Images.PACKED, 11, 2, 1, 11, 1, 2, 3, 4, 5, 6, 7, 8, 9, 10, 11);
        for (int i = 0; i < 11; i++) {
            Images.lay(x, (2 + i) * 16, 0x10, 100 + i);
        }
        Images.header(x, 2, 13);
        x.mount();
        for (int i = 0; i < 11; i++) {
            Checks.same("byte " + i, x.read(0, i), 100 + i);
        }
        Checks.outOfBounds("byte 11", () -> x.read(0, 11));
        Checks.same("misses", x.cache(false), 11);
        Checks.same("check", x.check(), -1);
    }

    /** 120 slots, blocks 1 .. 60: three clusters in the last three blocks. */
    private static void largeNumber() {
        PackedImage x = new PackedImage();
        Images.lay(x, 16 + 118 * 8, Images.LONG | Images.FILE | Images.PACKED, 6, 61, 1, 3, 1, 3, 6);
        Images.lay(x, 61 * 16, 0x10, 'a');
        Images.lay(x, 62 * 16, 0x20, 'b', 'c');
        Images.lay(x, 63 * 16, 0x30, 'd', 'e', 'f');
        Images.header(x, 120, 64);
        Checks.same("inodes", x.mount(), 119);
        Checks.sameText("its data", Images.data(x, 118), "abcdef");
        Checks.same("misses", x.cache(false), 3);
        Checks.outOfBounds("its second slot", () -> x.read(119, 0));
        Checks.same("check", x.check(), -1);
    }

    private static void largest() {
        PackedImage x = Images.inode(Images.FILE, 255, 2);
        Images.lay(x, 32 + 253, 7, 8, 9);
        Images.header(x, 2, 18);
        x.mount();
        Checks.same("byte 253", x.read(0, 253), 7);
        Checks.same("byte 254", x.read(0, 254), 8);
        Checks.outOfBounds("byte 255", () -> x.read(0, 255));
    }

    private static void lastOfDevice() {
        PackedImage x = Images.inode(Images.FILE, 16, 63);
        x.poke(1023, 77);
        Images.header(x, 2, 64);
        x.mount();
        Checks.same("PLAIN", x.read(0, 15), 77);
        PackedImage y = Images.inode(Images.LONG | Images.FILE | Images.PACKED, 15, 63, 1, 1, 15);
        y.poke(1008, 0xF0);
        y.poke(1023, 88);
        Images.header(y, 2, 64);
        y.mount();
        Checks.same("PACKED", y.read(0, 14), 88);
    }

    private static void tailsOfAllKinds() {
        PackedImage x = new PackedImage();
        Images.link(x, 0, 'l', "path");
        x.build(1);
        x.mount();
        Checks.sameText("the directory", Images.data(x, 0), "l\1\2");
        Checks.sameText("the link", Images.data(x, 1), "path");
    }

    private static void notMounted() {
        PackedImage x = Images.withFile("x");
        Checks.illegalState("a new object", () -> x.read(0, 0));
        x.build(0);
        Checks.illegalState("built", () -> x.read(0, 0));
        x.mount();
        Checks.same("mounted", x.read(1, 0), 'x');
        x.poke(1000, 0);
        Checks.illegalState("poked", () -> x.read(1, 0));
    }

    private static void noInode() {
        PackedImage x = Images.mountedFile("x", 0);
        Checks.outOfBounds("-1", () -> x.read(-1, 0));
        Checks.outOfBounds("2", () -> x.read(2, 0));
        Checks.outOfBounds("126", () -> x.read(126, 0));
        Checks.outOfBounds("the largest int", () -> x.read(Integer.MAX_VALUE, 0));
        Checks.outOfBounds("the least int", () -> x.read(Integer.MIN_VALUE, 0));
    }

    private static void secondSlot() {
        PackedImage x = Images.mountedFile("a".repeat(40), 4);
        Checks.outOfBounds("2", () -> x.read(2, 0));
        Checks.same("misses", x.cache(false), 0);
    }

    private static void badInode() {
        Checks.illegalState("kind 3", () -> Images.inode(Images.KIND_3, 3, 2).read(0, 0));
        Checks.illegalState("a directory of 4 bytes", () -> Images.inode(0, 4, 2).read(0, 0));
        Checks.illegalState("a block that is not used", () -> Images.inode(Images.FILE, 17, 7).read(0, 0));
        PackedImage x = Images.inode(Images.LONG | Images.FILE | Images.PACKED, 6, 2, 1, 1, 5);
        Checks.illegalState("the last end is not the size", () -> x.read(0, 0));
        Checks.same("its cluster is not used", x.cache(false), 0);
    }

    private static void byteTooSmall() {
        PackedImage x = Images.mountedFile("12345", 0);
        Checks.outOfBounds("-1", () -> x.read(1, -1));
        Checks.outOfBounds("the least int", () -> x.read(1, Integer.MIN_VALUE));
        Checks.same("0", x.read(1, 0), '1');
        PackedImage y = Images.mountedFile("a".repeat(40), 4);
        Checks.outOfBounds("-1 of a PACKED one", () -> y.read(1, -1));
        PackedImage z = Images.mountedFile("12345", 1);
        Checks.outOfBounds("-1 of a TAILED one", () -> z.read(1, -1));
    }

    private static void byteTooLarge() {
        for (int flags = 0; flags < 8; flags++) {
            for (int size : new int[] {1, 5, 15, 16, 17, 40, 60}) {
                PackedImage x = Images.mountedFile("a".repeat(size), flags);
                Checks.same("the last byte", x.read(1, size - 1), 'a');
                Checks.outOfBounds("one more than " + size + ", flags " + flags, () -> x.read(1, size));
                Checks.outOfBounds("the largest int", () -> x.read(1, Integer.MAX_VALUE));
            }
        }
    }

    private static void empty() {
        PackedImage x = Images.mountedFile("", 0);
        Checks.outOfBounds("an empty file", () -> x.read(1, 0));
        PackedImage y = new PackedImage();
        y.build(0);
        y.mount();
        Checks.outOfBounds("an empty root", () -> y.read(0, 0));
    }

    private static void filledUp() {
        PackedImage x = Images.mountedFile("abc", 0);
        Checks.outOfBounds("in a block", () -> x.read(1, 3));
        PackedImage y = Images.mountedFile("abc", 1);
        Checks.outOfBounds("in the rest", () -> y.read(1, 3));
    }

    private static void badCluster() {
        PackedImage x = Images.cluster(4, 0x11, 'a', 2);
        Checks.illegalState("its first byte", () -> x.read(0, 0));
        Checks.illegalState("its last byte", () -> x.read(0, 3));
        Checks.same("the inode is not bad", x.stat(0, 5), 0);
    }

    private static void otherClusters() {
        PackedImage x = Images.withFile(Images.threeClusters());
        x.build(4);
        x.poke(5 * 16, 0);
        x.mount();
        Checks.same("the last byte of the one before", x.read(1, 14), 34);
        Checks.illegalState("the first byte", () -> x.read(1, 15));
        Checks.illegalState("the last byte", () -> x.read(1, 29));
        Checks.same("the first byte of the one behind", x.read(1, 30), 'a');
    }

    private static void mountFirst() {
        PackedImage x = new PackedImage();
        Checks.illegalState("inode -1", () -> x.read(-1, 0));
        Checks.illegalState("inode 999", () -> x.read(999, -1));
    }

    private static void inodeFirst() {
        PackedImage x = Images.mountedFile("x", 0);
        Checks.outOfBounds("inode 2, byte -1", () -> x.read(2, -1));
        PackedImage y = Images.inode(Images.KIND_3, 3, 2);
        Checks.outOfBounds("beside a bad one", () -> y.read(2, 0));
    }

    private static void badFirst() {
        PackedImage x = Images.inode(Images.KIND_3, 3, 2);
        Checks.illegalState("byte 3", () -> x.read(0, 3));
        Checks.illegalState("byte -1", () -> x.read(0, -1));
    }

    private static void byteFirst() {
        PackedImage x = Images.cluster(4, 0);
        Checks.outOfBounds("byte 4", () -> x.read(0, 4));
        Checks.outOfBounds("byte -1", () -> x.read(0, -1));
        Checks.same("its cluster is not used", x.cache(false), 0);
        Checks.illegalState("byte 3", () -> x.read(0, 3));
        Checks.same("it is now", x.cache(false), 1);
    }
}
