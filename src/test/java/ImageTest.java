/** The image: what a build puts into block 0, the slots and the blocks behind them. */
public final class ImageTest {
    public static void main(String[] args) {
        Checks.test("bytes 0, 1: 225, 245. 2 the FLAGS", ImageTest::beginning);
        Checks.test("3 how many SLOTS there are: one", () -> slots(1));
        Checks.test("3 how many SLOTS there are: 16 short inodes", ImageTest::sixteenShort);
        Checks.test("3 how many SLOTS there are: long inodes take two", ImageTest::allLong);
        Checks.test("4 how many blocks are USED (all from 0 on): the least", ImageTest::leastUsed);
        Checks.test("14, 15 the CHECK of bytes 0 .. 13, the higher byte first", ImageTest::check);
        Checks.test("from block 1 on lie the SLOTS, of 8 bytes each", ImageTest::slotPlaces);
        Checks.test("behind the slots, from the next block on: an even count", () -> slots(2));
        Checks.test("behind the slots, from the next block on: an odd count", () -> slots(3));
        Checks.test("bits 1, 2 the kind", ImageTest::kinds);
        Checks.test("bits 3, 4 the LAYOUT; bit 0 is 1 for a long one", ImageTest::layouts);
        Checks.test("byte 1 the SIZE: 0 and 60", ImageTest::sizes);
        Checks.test("3 bytes for each entry, by name: name, inode, kind", ImageTest::entries);
        Checks.test("3 bytes for each entry: none", ImageTest::noEntries);
        Checks.test("3 bytes for each entry: 26", ImageTest::allEntries);
        Checks.test("byte 2 the FIRST block (0 if it has none there): no data", ImageTest::noData);
        Checks.test("byte 2 the FIRST block (0 if it has none there): a tail alone", ImageTest::tailAlone);
        Checks.test("byte 3 the COUNT (1 for the root)", ImageTest::rootCount);
        Checks.test("byte 3 the lowest 8 bits of the COUNT: 255", () -> count(255, 255));
        Checks.test("byte 3 the lowest 8 bits of the COUNT: 256", () -> count(256, 0));
        Checks.test("byte 3 the lowest 8 bits of the COUNT: 257", () -> count(257, 1));
        Checks.test("PLAIN: as many as are needed: 1 byte", () -> plain(1, 1));
        Checks.test("PLAIN: as many as are needed: 15 bytes", () -> plain(15, 1));
        Checks.test("PLAIN: as many as are needed: 16 bytes", () -> plain(16, 1));
        Checks.test("PLAIN: as many as are needed: 17 bytes", () -> plain(17, 2));
        Checks.test("PLAIN: as many as are needed: 32 bytes", () -> plain(32, 2));
        Checks.test("PLAIN: as many as are needed: 33 bytes", () -> plain(33, 3));
        Checks.test("PLAIN: as many as are needed: 48 bytes", () -> plain(48, 3));
        Checks.test("PLAIN: as many as are needed: 49 bytes", () -> plain(49, 4));
        Checks.test("PLAIN: as many as are needed: 60 bytes", () -> plain(60, 4));
        Checks.test("PLAIN: the last one filled up with 0", ImageTest::filledUp);
        Checks.test("TAILED: whole blocks likewise, the TAIL at the beginning of the rest", ImageTest::tailed);
        Checks.test("the REST, 4 or 12 bytes: what is not needed is 0", ImageTest::restIsZero);
        Checks.end();
    }

    private static void beginning() {
        PackedImage x = new PackedImage();
        for (int flags = 0; flags <= 7; flags++) {
            x.build(flags);
            Checks.sameText("flags " + flags, Images.bytes(x, 0, 5), "225 245 " + flags + " 1 2");
        }
    }

    /** So many short inodes: the root's data lie behind them. */
    private static void slots(int count) {
        PackedImage x = new PackedImage();
        for (int node = 1; node < count; node++) {
            Images.file(x, 0, (char) ('a' + node), "");
        }
        x.build(0);
        Checks.same("slots", x.peek(3), count);
        Checks.same("the root's first block", x.peek(18), count == 1 ? 0 : 1 + (count + 1) / 2);
    }

    private static void sixteenShort() {
        slots(16);
    }

    private static void allLong() {
        PackedImage x = new PackedImage();
        for (int node = 1; node < 16; node++) {
            Images.file(x, 0, (char) ('a' + node), "12345");
        }
        Checks.same("blocks: block 0, the slots, and 45 bytes PLAIN", x.build(1), 1 + 16 + 3);
        Checks.same("slots: the root's is short", x.peek(3), 31);
        Checks.same("inodes", x.mount(), 16);
        Checks.same("the last one", x.find(0, 'p'), 29);
        Checks.sameText("its data", Images.data(x, 29), "12345");
    }

    private static void leastUsed() {
        PackedImage x = new PackedImage();
        Checks.same("an empty root", x.build(0), 2);
        Checks.same("byte 4", x.peek(4), 2);
    }

    private static void check() {
        PackedImage x = new PackedImage();
        Images.file(x, 0, 'b', "hello");
        Images.directory(x, 0, 'a');
        Images.file(x, 2, 'x', "0123456789abcdefXY");
        Images.link(x, 0, 'z', "ax");
        Checks.same("used blocks", x.build(0), 10);
        Checks.sameText("block 0", Images.block(x, 0), "225 245 0 5 10 0 0 0 0 0 0 0 0 0 186 168");
    }

    private static void slotPlaces() {
        PackedImage x = new PackedImage();
        Images.file(x, 0, 'a', "A");
        Images.file(x, 0, 'b', "BB");
        Images.file(x, 0, 'c', "CCC");
        x.build(0);
        for (int slot = 1; slot <= 3; slot++) {
            Checks.sameText("slot " + slot, Images.bytes(x, 16 + 8 * slot, 4), "2 " + slot + " " + (3 + slot) + " 1");
        }
    }

    private static void kinds() {
        PackedImage x = new PackedImage();
        Images.directory(x, 0, 'a');
        Images.file(x, 0, 'b', "");
        Images.link(x, 0, 'c', "");
        x.build(0);
        Checks.same("the root", x.peek(16), 0);
        Checks.same("a directory", x.peek(24), 0);
        Checks.same("a file", x.peek(32), 2);
        Checks.same("a link", x.peek(40), 4);
    }

    private static void layouts() {
        PackedImage x = new PackedImage();
        Images.file(x, 0, 'a', "");
        Images.file(x, 0, 'b', "1234");
        Images.file(x, 0, 'c', "12345");
        Images.file(x, 0, 'd', "a".repeat(40));
        x.build(5);
        Checks.same("the root, TAILED and long", x.peek(16), 9);
        Checks.same("PLAIN", x.peek(32), 2);
        Checks.same("TAILED and short", x.peek(40), 10);
        Checks.same("TAILED and long", x.peek(48), 11);
        Checks.same("PACKED and long", x.peek(64), 19);
    }

    private static void sizes() {
        PackedImage x = Images.withFile("");
        x.build(0);
        Checks.same("an empty file", x.peek(25), 0);
        PackedImage y = Images.withFile(Images.unlike(60, 1));
        y.build(0);
        Checks.same("a full file", y.peek(25), 60);
    }

    private static void entries() {
        PackedImage x = new PackedImage();
        int directory = Images.directory(x, 0, 'm');
        Images.file(x, directory, 'z', "");
        Images.link(x, directory, 'a', "");
        Images.file(x, directory, 'k', "");
        Images.directory(x, 0, 'b');
        x.build(1);
        Checks.sameText("the root", Images.longSlot(x, 0), "9 6 0 1 98 7 0 109 2 0 0 0 0 0 0 0");
        Checks.sameText("a directory", Images.longSlot(x, 2), "9 9 0 1 97 5 2 107 6 1 122 4 1 0 0 0");
    }

    private static void noEntries() {
        PackedImage x = new PackedImage();
        Images.directory(x, 0, 'd');
        x.build(0);
        Checks.sameText("an empty directory", Images.slot(x, 1), "0 0 0 1 0 0 0 0");
    }

    private static void allEntries() {
        PackedImage x = new PackedImage();
        Images.file(x, 0, 'a', "");
        for (char name = 'b'; name <= 'z'; name++) {
            x.link(1, 0, name);
        }
        Checks.same("used blocks", x.build(0), 2 + 5);
        Checks.sameText("the root", Images.slot(x, 0), "0 78 2 1 0 0 0 0");
        Checks.sameText("the first entry", Images.bytes(x, 32, 3), "97 1 1");
        Checks.sameText("the last one, and what fills up", Images.bytes(x, 32 + 75, 5), "122 1 1 0 0");
    }

    private static void noData() {
        PackedImage x = new PackedImage();
        Images.directory(x, 0, 'a');
        Images.file(x, 0, 'b', "");
        Images.link(x, 0, 'c', "");
        for (int flags = 0; flags <= 7; flags++) {
            x.build(flags);
            x.mount();
            for (char name = 'a'; name <= 'c'; name++) {
                int inode = x.find(0, name);
                Checks.same(name + " with flags " + flags + ": first block", x.stat(inode, 4), 0);
                Checks.same("layout", x.stat(inode, 1), 0);
            }
        }
    }

    private static void tailAlone() {
        PackedImage x = Images.withFile("tail");
        for (int flags = 1; flags < 8; flags += 2) {
            Checks.same("used blocks", x.build(flags), 2);
            Checks.sameText("the root", Images.slot(x, 0), "8 3 0 1 102 1 1 0");
            Checks.sameText("the file", Images.slot(x, 1), "10 4 0 1 116 97 105 108");
        }
    }

    private static void rootCount() {
        PackedImage x = new PackedImage();
        x.build(0);
        Checks.same("an empty root's", x.peek(19), 1);
        Images.directory(x, 0, 'd');
        x.build(0);
        Checks.same("the root's", x.peek(19), 1);
        Checks.same("a directory's", x.peek(27), 1);
    }

    /** A file in so many entries: one in the root, the others in directories, at most 26 in each. */
    private static void count(int entries, int due) {
        PackedImage x = new PackedImage();
        int file = Images.file(x, 0, 'z', "counted");
        int directory = 0;
        for (int i = 0; i < entries - 1; i++) {
            if (i % 26 == 0) {
                directory = Images.directory(x, 0, (char) ('a' + i / 26));
            }
            x.link(file, directory, (char) ('a' + i % 26));
        }
        x.build(2);
        Checks.same("byte 3", x.peek(27), due);
        x.mount();
        Checks.same("stat", x.stat(1, 3), due);
        Checks.same("check", x.check(), -1);
    }

    /** The root's data are in block 2. */
    private static void plain(int size, int blocks) {
        PackedImage x = Images.withFile(Images.unlike(size, 50));
        Checks.same("used blocks", x.build(0), 3 + blocks);
        Checks.sameText("inode", Images.slot(x, 1), "2 " + size + " 3 1 0 0 0 0");
        Checks.same("the first byte", x.peek(48), 50);
        Checks.same("the last byte", x.peek(48 + size - 1), 50 + size - 1);
        x.mount();
        Checks.sameText("the data", Images.data(x, 1), Images.unlike(size, 50));
    }

    private static void filledUp() {
        PackedImage x = Images.withFile(Images.unlike(17, 100));
        for (int at = 32; at < 80; at++) {
            x.poke(at, 255);
        }
        x.build(0);
        Checks.sameText("the root's", Images.block(x, 2), "102 1 1 0 0 0 0 0 0 0 0 0 0 0 0 0");
        Checks.sameText("a whole one", Images.bytes(x, 48, 3), "100 101 102");
        Checks.sameText("the last one", Images.block(x, 4), "116 0 0 0 0 0 0 0 0 0 0 0 0 0 0 0");
    }

    private static void tailed() {
        PackedImage x = Images.withFile(Images.unlike(37, 1));
        Checks.same("used blocks", x.build(1), 3 + 2);
        Checks.sameText("the inode", Images.longSlot(x, 1), "11 37 3 1 33 34 35 36 37 0 0 0 0 0 0 0");
        Checks.sameText("the first block", Images.block(x, 3), "1 2 3 4 5 6 7 8 9 10 11 12 13 14 15 16");
        Checks.sameText("the second", Images.block(x, 4), "17 18 19 20 21 22 23 24 25 26 27 28 29 30 31 32");
    }

    private static void restIsZero() {
        PackedImage x = Images.withFile("x");
        Images.file(x, 0, 'g', "12345");
        for (int at = 16; at < 64; at++) {
            x.poke(at, 255);
        }
        x.build(1);
        Checks.sameText("of the root", Images.bytes(x, 20, 12), "102 2 1 103 3 1 0 0 0 0 0 0");
        Checks.sameText("of a short one", Images.bytes(x, 36, 4), "120 0 0 0");
        Checks.sameText("of a long one", Images.bytes(x, 44, 12), "49 50 51 52 53 0 0 0 0 0 0 0");
        Checks.sameText("behind the last slot", Images.bytes(x, 56, 8), "0 0 0 0 0 0 0 0");
    }
}
