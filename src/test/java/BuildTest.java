/** To build, and promise 6; what packing does stands in PackTest, what lies where in ImageTest. */
public final class BuildTest {
    public static void main(String[] args) {
        Checks.test("nodes get inodes in their order", BuildTest::order);
        Checks.test("those that are in no entry get none", BuildTest::noEntry);
        Checks.test("those that are in no entry get none: the last node", BuildTest::lastInNoEntry);
        Checks.test("if the size is not a multiple of 16: 0", () -> tail(0, "2 0 0 1 0 0 0 0", 1));
        Checks.test("if the size is not a multiple of 16: 1", () -> tail(1, "10 1 0 1 50 0 0 0", 1));
        Checks.test("if the size is not a multiple of 16: 16", () -> tail(16, "2 16 2 1 0 0 0 0", 1));
        Checks.test("if the size is not a multiple of 16: 17", () -> tail(17, "10 17 2 1 66 0 0 0", 1));
        Checks.test("if the size is not a multiple of 16: 48", () -> tail(48, "2 48 2 1 0 0 0 0", 1));
        Checks.test("the tail has at most 12 bytes: 12",
                () -> tail(12, "11 12 0 1 50 51 52 53 54 55 56 57 58 59 60 61", 2));
        Checks.test("the tail has at most 12 bytes: 13", () -> tail(13, "2 13 2 1 0 0 0 0", 1));
        Checks.test("the tail has at most 12 bytes: 15", () -> tail(15, "2 15 2 1 0 0 0 0", 1));
        Checks.test("the tail has at most 12 bytes: 44",
                () -> tail(44, "11 44 3 1 82 83 84 85 86 87 88 89 90 91 92 93", 2));
        Checks.test("the tail has at most 12 bytes: 45", () -> tail(45, "2 45 2 1 0 0 0 0", 1));
        Checks.test("short if the tail has at most 4: 4", () -> tail(4, "10 4 0 1 50 51 52 53", 1));
        Checks.test("short if the tail has at most 4: 5",
                () -> tail(5, "11 5 0 1 50 51 52 53 54 0 0 0 0 0 0 0", 2));
        Checks.test("short if the tail has at most 4: 52", () -> tail(52, "10 52 2 1 98 99 100 101", 1));
        Checks.test("short if the tail has at most 4: 53",
                () -> tail(53, "11 53 3 1 98 99 100 101 102 0 0 0 0 0 0 0", 2));
        Checks.test("with TAILS: without it none", BuildTest::withoutTails);
        Checks.test("with TAILS: of directories and links, too", BuildTest::tailsOfAllKinds);
        Checks.test("data in the order of inodes", BuildTest::dataOrder);
        Checks.test("with SHARING: one block", BuildTest::shareBlock);
        Checks.test("with SHARING: a row of blocks", BuildTest::shareRow);
        Checks.test("with SHARING: a part of a row", BuildTest::sharePart);
        Checks.test("with SHARING: its first place is taken", BuildTest::firstPlace);
        Checks.test("with SHARING: not in another order", BuildTest::otherOrder);
        Checks.test("with SHARING: not what is there only in part", BuildTest::onlyInPart);
        Checks.test("with SHARING: over the data of several inodes", BuildTest::overSeveral);
        Checks.test("with SHARING: all kinds", BuildTest::shareAllKinds);
        Checks.test("with SHARING: whole blocks of TAILED files", BuildTest::shareTailed);
        Checks.test("with SHARING: blocks filled up with 0", BuildTest::shareFilledUp);
        Checks.test("with SHARING: from earlier inodes' data, not from slots", BuildTest::notFromSlots);
        Checks.test("with SHARING: from earlier inodes' data, not from block 0", BuildTest::notFromHeader);
        Checks.test("with SHARING: from earlier inodes' data, not from behind them", BuildTest::notFromBehind);
        Checks.test("with SHARING: what is the same within one file is put there twice", BuildTest::notWithinOne);
        Checks.test("with SHARING: without it none", BuildTest::withoutSharing);
        Checks.test("builds: the tree stays, and can be built again", BuildTest::again);
        Checks.test("all bytes behind them are 0", BuildTest::zerosBehind);
        Checks.test("nothing is mounted then", BuildTest::unmounts);
        Checks.test("if flags are not 0 .. 7: below", BuildTest::flagsTooSmall);
        Checks.test("if flags are not 0 .. 7: above", BuildTest::flagsTooLarge);
        Checks.test("if flags are not 0 .. 7: nothing comes of it", BuildTest::wrongFlagsChangeNothing);
        Checks.test("if there would be more than 64: 64", BuildTest::lastBlock);
        Checks.test("if there would be more than 64: 65 by data", BuildTest::tooManyByData);
        Checks.test("if there would be more than 64: 65 by slots", BuildTest::tooManyBySlots);
        Checks.test("if there would be more than 64: many more", BuildTest::farTooMany);
        Checks.test("if there would be more than 64: not if blocks are shared", BuildTest::sharedInTime);
        Checks.test("if there would be more than 64: not if the last ones are shared", BuildTest::lastShared);
        Checks.test("if there would be more than 64: not with TAILS", BuildTest::tailsInTime);
        Checks.test("(nothing changes): the device and what is mounted", BuildTest::refusedKeepsDevice);
        Checks.test("(nothing changes): the tree", BuildTest::refusedKeepsTree);
        Checks.end();
    }

    private static final String ONE = Images.unlike(16, 10);
    private static final String TWO = Images.unlike(16, 40);
    private static final String THREE = Images.unlike(16, 70);

    private static PackedImage files(String... contents) {
        PackedImage x = new PackedImage();
        for (int i = 0; i < contents.length; i++) {
            Images.file(x, 0, (char) ('a' + i), contents[i]);
        }
        return x;
    }

    /** The first block of each file is due, in the order of the files; all inodes are short. */
    private static void firstBlocks(PackedImage x, int... due) {
        x.mount();
        for (int i = 0; i < due.length; i++) {
            Checks.same("first block of file " + i, x.stat(i + 1, 4), due[i]);
        }
        Checks.same("check", x.check(), -1);
    }

    private static void order() {
        PackedImage x = new PackedImage();
        Images.file(x, 0, 'z', "");
        Images.directory(x, 0, 'y');
        Images.file(x, 2, 'c', "");
        Images.link(x, 0, 'x', "");
        Images.file(x, 2, 'b', "");
        x.build(0);
        x.mount();
        Checks.sameText("the root", Images.data(x, 0), "x\4\2y\2\0z\1\1");
        Checks.sameText("the directory", Images.data(x, 2), "b\5\1c\3\1");
    }

    private static void noEntry() {
        PackedImage x = files("1", "22", "333");
        x.unlink(0, 'b');
        x.build(0);
        Checks.same("inodes", x.mount(), 3);
        Checks.same("the one behind it", x.stat(2, 2), 3);
        Checks.same("slots", x.peek(3), 3);
    }

    private static void lastInNoEntry() {
        PackedImage x = files("1", "22", "333");
        x.unlink(0, 'c');
        Checks.same("used blocks", x.build(0), 1 + 2 + 1 + 2);
        Checks.same("inodes", x.mount(), 3);
        x.unlink(0, 'a');
        x.unlink(0, 'b');
        Checks.same("a root alone", x.build(0), 2);
        Checks.same("its inode", x.mount(), 1);
        Checks.same("its size", x.stat(0, 2), 0);
    }

    private static void tail(int size, String inode, int slots) {
        PackedImage x = Images.withFile(Images.unlike(size, 50));
        x.build(1);
        Checks.same("slots with a file of " + size, x.peek(3), 1 + slots);
        Checks.sameText("a file of " + size, slots == 1 ? Images.slot(x, 1) : Images.longSlot(x, 1), inode);
        x.mount();
        Checks.sameText("its data", Images.data(x, 1), Images.unlike(size, 50));
    }

    private static void withoutTails() {
        PackedImage x = Images.withFile("tail");
        for (int flags = 0; flags < 8; flags++) {
            x.build(flags);
            x.mount();
            Checks.same("layout with flags " + flags, x.stat(1, 1), flags % 2);
        }
    }

    private static void tailsOfAllKinds() {
        PackedImage x = new PackedImage();
        Images.link(x, 0, 'a', "abcd");
        Checks.same("a link and a root with tails alone", x.build(1), 2);
        Checks.sameText("the root", Images.slot(x, 0), "8 3 0 1 97 1 2 0");
        Checks.sameText("the link", Images.slot(x, 1), "12 4 0 1 97 98 99 100");
        for (char name = 'b'; name <= 'e'; name++) {
            Images.link(x, 0, name, "");
        }
        Checks.same("a directory of 15 bytes has no tail", x.build(1), 1 + 3 + 1);
        Checks.sameText("its inode", Images.slot(x, 0), "0 15 4 1 0 0 0 0");
        Images.link(x, 0, 'f', "");
        Checks.same("one of 18 bytes has", x.build(1), 1 + 4 + 1);
        Checks.sameText("its inode", Images.slot(x, 0), "8 18 5 1 6 2 0 0");
    }

    private static void dataOrder() {
        PackedImage x = new PackedImage();
        Images.directory(x, 0, 'z');
        Images.file(x, 1, 'a', "in z");
        Images.file(x, 0, 'b', "in the root");
        Images.link(x, 0, 'a', "b");
        x.build(0);
        x.mount();
        for (int inode = 0; inode <= 4; inode++) {
            Checks.same("first block of inode " + inode, x.stat(inode, 4), 4 + inode);
        }
    }

    private static void shareBlock() {
        PackedImage x = files(ONE, TWO, ONE);
        Checks.same("used blocks", x.build(2), 1 + 2 + 1 + 2);
        firstBlocks(x, 4, 5, 4);
    }

    private static void shareRow() {
        PackedImage x = files(THREE, ONE + TWO, ONE + TWO);
        Checks.same("used blocks", x.build(2), 1 + 2 + 1 + 3);
        firstBlocks(x, 4, 5, 5);
        Checks.sameText("the data", Images.data(x, 3), ONE + TWO);
    }

    private static void sharePart() {
        PackedImage x = files(ONE + TWO + THREE, ONE, TWO, THREE, ONE + TWO, TWO + THREE);
        Checks.same("used blocks", x.build(2), 1 + 4 + 2 + 3);
        firstBlocks(x, 7, 7, 8, 9, 7, 8);
    }

    private static void firstPlace() {
        PackedImage x = files(ONE + TWO, THREE + ONE, ONE, ONE + TWO);
        Checks.same("used blocks", x.build(2), 1 + 3 + 1 + 4);
        firstBlocks(x, 5, 7, 5, 5);
        PackedImage y = files("x" + ONE.substring(1), TWO + ONE + TWO, TWO);
        Checks.same("used blocks", y.build(2), 1 + 2 + 1 + 4);
        firstBlocks(y, 4, 5, 5);
    }

    private static void otherOrder() {
        PackedImage x = files(ONE + TWO, TWO + ONE);
        Checks.same("used blocks", x.build(2), 1 + 2 + 1 + 4);
        firstBlocks(x, 4, 6);
        Checks.sameText("the data", Images.data(x, 2), TWO + ONE);
    }

    private static void onlyInPart() {
        PackedImage x = files(ONE, ONE + TWO, THREE + ONE);
        Checks.same("used blocks", x.build(2), 1 + 2 + 1 + 1 + 2 + 2);
        firstBlocks(x, 4, 5, 7);
    }

    private static void overSeveral() {
        PackedImage x = files(ONE, TWO, ONE + TWO, TWO + ONE);
        Checks.same("used blocks", x.build(2), 1 + 3 + 1 + 2 + 2);
        firstBlocks(x, 5, 6, 5, 7);
    }

    private static void shareAllKinds() {
        PackedImage x = new PackedImage();
        Images.link(x, 0, 'a', "xy");
        Images.file(x, 0, 'b', "xy");
        Images.directory(x, 0, 'c');
        Images.file(x, 0, 'd', "a\1\2b\2\1c\3\0d\4\1");
        Checks.same("used blocks", x.build(2), 1 + 3 + 1 + 1);
        x.mount();
        Checks.same("a file shares a link's block", x.stat(2, 4), x.stat(1, 4));
        Checks.same("a file shares a directory's block", x.stat(4, 4), x.stat(0, 4));
        Checks.same("what has no data has no first block", x.stat(3, 4), 0);
    }

    private static void shareTailed() {
        PackedImage x = files(ONE + "xyz", ONE + "zyx");
        Checks.same("used blocks", x.build(3), 1 + 2 + 1);
        x.mount();
        Checks.same("the same block", x.stat(2, 4), x.stat(3, 4));
        Checks.sameText("the first one's data", Images.data(x, 2), ONE + "xyz");
        Checks.sameText("the second one's data", Images.data(x, 3), ONE + "zyx");
    }

    private static void shareFilledUp() {
        PackedImage x = files("ab", "ab\0", "ab\0\0", "abc");
        Checks.same("used blocks", x.build(2), 1 + 3 + 1 + 2);
        firstBlocks(x, 5, 5, 5, 6);
    }

    /** Block 1, as it is at last, and as it would be before the first block is known. */
    private static void notFromSlots() {
        PackedImage x = files("", "\0\6\3\1\0\0\0\0\2\0\0\1\0\0\0\0");
        Checks.same("used blocks", x.build(2), 5);
        Checks.sameText("block 1", Images.block(x, 1), "0 6 3 1 0 0 0 0 2 0 0 1 0 0 0 0");
        firstBlocks(x, 0, 4);
        PackedImage y = files("\0\3\2\1\0\0\0\0\2\20\0\1\0\0\0\0");
        Checks.same("used blocks", y.build(2), 4);
        firstBlocks(y, 3);
    }

    private static void notFromHeader() {
        PackedImage x = files("\u00e1\u00f5\2\2\4\0\0\0\0\0\0\0\0\0");
        x.build(2);
        x.append(1, x.peek(14));
        x.append(1, x.peek(15));
        Checks.same("used blocks", x.build(2), 4);
        Checks.sameText("the file's block", Images.block(x, 3), Images.block(x, 0));
        firstBlocks(x, 3);
    }

    /** The device has that block already, from an image before, and blocks of 0 behind. */
    private static void notFromBehind() {
        PackedImage x = files("", ONE, "\0");
        Images.lay(x, 1008, 10, 11, 12, 13, 14, 15, 16, 17, 18, 19, 20, 21, 22, 23, 24, 25);
        Checks.same("used blocks", x.build(2), 1 + 2 + 1 + 2);
        firstBlocks(x, 0, 4, 5);
        Checks.same("used blocks of the same again", x.build(2), 1 + 2 + 1 + 2);
        firstBlocks(x, 0, 4, 5);
    }

    private static void notWithinOne() {
        PackedImage x = files(ONE + ONE, ONE + ONE + ONE);
        Checks.same("used blocks", x.build(2), 1 + 2 + 1 + 2 + 3);
        firstBlocks(x, 4, 6);
    }

    private static void withoutSharing() {
        PackedImage x = files(ONE + "x", ONE + "y", ONE);
        Checks.same("no flags", x.build(0), 1 + 2 + 1 + 5);
        Checks.same("TAILS", x.build(1), 1 + 3 + 3);
        Checks.same("PACKING", x.build(4), 1 + 2 + 1 + 5);
        Checks.same("TAILS and PACKING", x.build(5), 1 + 3 + 3);
    }

    private static void again() {
        PackedImage x = files("hello");
        Checks.same("used blocks", x.build(0), 4);
        Checks.same("the same again", x.build(0), 4);
        x.mount();
        Checks.sameText("the data", Images.data(x, 1), "hello");
        x.append(1, '!');
        x.build(0);
        x.mount();
        Checks.sameText("the data", Images.data(x, 1), "hello!");
    }

    private static void zerosBehind() {
        PackedImage x = Images.withFile(Images.unlike(60, 60));
        Checks.same("a larger one", x.build(0), 7);
        x.poke(1023, 255);
        x.poke(112, 255);
        x.unlink(0, 'f');
        Checks.same("a smaller one", x.build(0), 2);
        for (int at = 24; at < 128; at++) {
            Checks.same("byte " + at, x.peek(at), 0);
        }
        Checks.same("the last byte", x.peek(1023), 0);
    }

    private static void unmounts() {
        PackedImage x = Images.mountedFile("a".repeat(40), 4);
        x.read(1, 0);
        x.build(4);
        Checks.illegalState("stat", () -> x.stat(0, 0));
        Checks.illegalState("check", () -> x.check());
        Checks.same("misses", x.cache(false), 0);
    }

    private static void flagsTooSmall() {
        PackedImage x = new PackedImage();
        Checks.same("0", x.build(0), 2);
        Checks.illegalArgument("-1", () -> x.build(-1));
        Checks.illegalArgument("the least int", () -> x.build(Integer.MIN_VALUE));
    }

    private static void flagsTooLarge() {
        PackedImage x = new PackedImage();
        Checks.same("7", x.build(7), 2);
        Checks.illegalArgument("8", () -> x.build(8));
        Checks.illegalArgument("256", () -> x.build(256));
        Checks.illegalArgument("the largest int", () -> x.build(Integer.MAX_VALUE));
    }

    private static void wrongFlagsChangeNothing() {
        PackedImage x = Images.mountedFile("old", 0);
        x.append(1, '!');
        Checks.illegalArgument("8", () -> x.build(8));
        Checks.same("the size", x.stat(1, 2), 3);
        Checks.same("byte 2", x.peek(2), 0);
        PackedImage y = new PackedImage();
        Checks.illegalArgument("-1", () -> y.build(-1));
        Checks.same("byte 0", y.peek(0), 0);
    }

    /**
     * Node 1 a file z, then 10 directories with 22 entries each, 5 blocks, no two alike:
     * 1 + 6 + 3 + 50 blocks, and those of the file.
     */
    private static PackedImage wide(String content) {
        PackedImage x = new PackedImage();
        int file = Images.file(x, 0, 'z', content);
        for (int i = 0; i < 10; i++) {
            fill(x, Images.directory(x, 0, (char) ('a' + i)), file, i);
        }
        return x;
    }

    private static void fill(PackedImage x, int directory, int file, int gap) {
        for (int letter = 0; letter < 26; letter++) {
            if (letter < gap || letter > gap + 3) {
                x.link(file, directory, (char) ('a' + letter));
            }
        }
    }

    private static void lastBlock() {
        PackedImage x = wide(Images.unlike(49, 1));
        Checks.same("used blocks", x.build(0), 64);
        Checks.same("byte 4", x.peek(4), 64);
        Checks.sameText("the last block", Images.block(x, 63), "1 1 0 0 0 0 0 0 0 0 0 0 0 0 0 0");
        Checks.same("inodes", x.mount(), 12);
        Checks.same("the last directory's first block", x.stat(11, 4), 59);
        Checks.same("its last entry", x.find(11, 'z'), 1);
        Checks.same("check", x.check(), -1);
        for (int i = 0; i < 5; i++) {
            x.link(1, 0, (char) ('k' + i));
        }
        Checks.same("16 entries of the root need no more", x.build(0), 64);
    }

    private static void tooManyByData() {
        PackedImage x = wide(Images.unlike(49, 1));
        for (int i = 0; i < 6; i++) {
            x.link(1, 0, (char) ('k' + i));
        }
        Checks.unsupported("17 entries of the root", () -> x.build(0));
    }

    private static void tooManyBySlots() {
        PackedImage x = wide(Images.unlike(49, 1));
        Images.file(x, 0, 'y', "");
        Checks.unsupported("13 slots", () -> x.build(0));
    }

    private static void farTooMany() {
        PackedImage x = wide("x");
        for (int i = 10; i < 14; i++) {
            fill(x, Images.directory(x, 0, (char) ('a' + i)), 1, i);
        }
        Checks.unsupported("84 blocks", () -> x.build(0));
        Checks.unsupported("84 blocks, with SHARING", () -> x.build(2));
    }

    private static void sharedInTime() {
        PackedImage x = new PackedImage();
        int file = Images.file(x, 0, 'z', "x");
        for (int i = 0; i < 11; i++) {
            fill(x, Images.directory(x, 0, (char) ('a' + i)), file, 7);
        }
        Checks.unsupported("1 + 7 + 3 + 1 + 55 blocks", () -> x.build(0));
        Checks.same("with SHARING", x.build(2), 1 + 7 + 3 + 1 + 5);
        x.mount();
        Checks.same("check", x.check(), -1);
    }

    private static void lastShared() {
        PackedImage x = wide(Images.unlike(33, 1));
        Images.file(x, 0, 'y', Images.unlike(16, 17));
        Checks.unsupported("1 + 7 + 3 + 3 + 50 + 1 blocks", () -> x.build(0));
        Checks.same("with SHARING", x.build(2), 64);
        x.mount();
        Checks.same("the last file's first block", x.stat(12, 4), 12);
        x.append(12, 'z');
        Checks.unsupported("a row that is not there", () -> x.build(2));
    }

    private static void tailsInTime() {
        PackedImage x = wide(Images.unlike(60, 1));
        Images.file(x, 0, 'y', "y");
        Checks.unsupported("1 + 7 + 3 + 4 + 50 + 1 blocks", () -> x.build(0));
        Checks.same("with TAILS", x.build(1), 1 + 7 + 2 + 3 + 40);
    }

    private static void refusedKeepsDevice() {
        PackedImage x = Images.withFile("a".repeat(40));
        x.build(4);
        x.poke(1023, 77);
        x.mount();
        x.read(1, 0);
        x.read(1, 1);
        String before = Images.bytes(x, 0, 80);
        for (int i = 0; i < 11; i++) {
            fill(x, Images.directory(x, 0, (char) ('g' + i)), 1, i);
        }
        for (int flags = 0; flags < 8; flags += 2) {
            int tried = flags;
            Checks.unsupported("flags " + flags, () -> x.build(tried));
        }
        Checks.same("hits", x.cache(true), 1);
        Checks.same("misses", x.cache(false), 1);
        Checks.same("a byte", x.read(1, 2), 'a');
        Checks.same("its cluster was kept", x.cache(true), 2);
        Checks.same("check", x.check(), -1);
        Checks.sameText("the bytes", Images.bytes(x, 0, 80), before);
        Checks.same("the last byte", x.peek(1023), 77);
    }

    private static void refusedKeepsTree() {
        PackedImage x = wide(Images.unlike(49, 1));
        Images.file(x, 0, 'y', "");
        Checks.unsupported("13 slots", () -> x.build(0));
        x.unlink(0, 'y');
        Checks.same("without one", x.build(0), 64);
        Checks.same("inodes", x.mount(), 12);
        Checks.same("check", x.check(), -1);
        Checks.same("a new node", x.create(1, 0, 'x'), 13);
    }
}
