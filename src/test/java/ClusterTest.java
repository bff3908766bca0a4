/** A cluster is a row of tokens, and which clusters are bad; by read and by check. */
public final class ClusterTest {
    public static void main(String[] args) {
        Checks.test("a number L: 1", () -> good("a", 0x10, 'a'));
        Checks.test("a number L: 15", () -> good("abcdefghijklmno",
                0xF0, 'a', 'b', 'c', 'd', 'e', 'f', 'g', 'h', 'i', 'j', 'k', 'l', 'm', 'n', 'o'));
        Checks.test("a number L: 0, with a match", () -> good("aaaa", 0x10, 'a', 0x01, 1));
        Checks.test("M + 2 bytes: M is 0", () -> good("ab", 0x10, 'a', 0x10, 'b'));
        Checks.test("M + 2 bytes: M is 1", () -> good("aaaab", 0x11, 'a', 1, 0x10, 'b'));
        Checks.test("M + 2 bytes: M is 15", () -> good("a".repeat(18) + "b", 0x1F, 'a', 1, 0x10, 'b'));
        Checks.test("what is D before it: overlapping", () -> good("abababab", 0x24, 'a', 'b', 2));
        Checks.test("what is D before it: not overlapping", () -> good("abcdabc", 0x41, 'a', 'b', 'c', 'd', 4));
        Checks.test("literals of all bytes", () -> good("\0\u00ff\0", 0x30, 0, 255, 0));
        Checks.test("D is 0", ClusterTest::distanceZero);
        Checks.test("D is more than the bytes that are there: as many", () -> good("abcabc", 0x31, 'a', 'b', 'c', 3));
        Checks.test("D is more than the bytes that are there: one more", () -> bad(6, 0x31, 'a', 'b', 'c', 4));
        Checks.test("D is more than the bytes that are there: 255", () -> bad(6, 0x31, 'a', 'b', 'c', 255));
        Checks.test("D is more than the bytes that are there: none are", () -> bad(3, 0x01, 1));
        Checks.test("D is more than the bytes that are there: those of this cluster", ClusterTest::otherCluster);
        Checks.test("a token is 0: the first", () -> bad(1, 0));
        Checks.test("a token is 0: a later one", ClusterTest::laterZero);
        Checks.test("a token would lie behind the block", () -> bad(16,
                0xF0, 1, 2, 3, 4, 5, 6, 7, 8, 9, 10, 11, 12, 13, 14, 15));
        Checks.test("a literal would lie behind the block: just not", () -> good("abcdefghijklmn",
                0xD0, 'a', 'b', 'c', 'd', 'e', 'f', 'g', 'h', 'i', 'j', 'k', 'l', 'm', 0x10, 'n'));
        Checks.test("a literal would lie behind the block: a token in the last byte", () -> bad(15,
                0xE0, 1, 2, 3, 4, 5, 6, 7, 8, 9, 10, 11, 12, 13, 14, 0x10));
        Checks.test("a literal would lie behind the block: the second of two", ClusterTest::secondLiteral);
        Checks.test("D would lie behind the block: behind 15 literals", () -> bad(16,
                0xF1, 1, 2, 3, 4, 5, 6, 7, 8, 9, 10, 11, 12, 13, 14, 15));
        Checks.test("D would lie behind the block: a token in the last byte", () -> bad(15,
                0xE0, 1, 2, 3, 4, 5, 6, 7, 8, 9, 10, 11, 12, 13, 14, 0x01));
        Checks.test("D would lie behind the block: just not", () -> good("abcdefghijklmn" + "abc",
                0xE1, 'a', 'b', 'c', 'd', 'e', 'f', 'g', 'h', 'i', 'j', 'k', 'l', 'm', 'n', 14));
        Checks.test("behind the block: there is nothing behind block 63", ClusterTest::lastBlock);
        Checks.test("before as many bytes as it is to have: one too few", () -> bad(4, 0x30, 'a', 'b', 'c'));
        Checks.test("before as many bytes as it is to have: the most", ClusterTest::most);
        Checks.test("what goes beyond is not looked at: a token", () -> good("a", 0x10, 'a', 0));
        Checks.test("what goes beyond is not looked at: literals", () -> good("ab", 0xF0, 'a', 'b'));
        Checks.test("what goes beyond is not looked at: literals behind the block", ClusterTest::literalsBeyond);
        Checks.test("what goes beyond is not looked at: D is 0", () -> good("ab", 0x2F, 'a', 'b', 0));
        Checks.test("what goes beyond is not looked at: D is too much", () -> good("ab", 0x2F, 'a', 'b', 99));
        Checks.test("what goes beyond is not looked at: D behind the block", () -> good("abcdefghijklmno",
                0xFF, 'a', 'b', 'c', 'd', 'e', 'f', 'g', 'h', 'i', 'j', 'k', 'l', 'm', 'n', 'o'));
        Checks.test("what goes beyond is not looked at: bytes of a match", () -> good("aaaa", 0x1F, 'a', 1));
        Checks.test("what goes beyond is not looked at: D of a match of which one byte is needed",
                ClusterTest::firstOfMatch);
        Checks.test("what goes beyond is not looked at: data of the next cluster", ClusterTest::nextCluster);
        Checks.end();
    }

    private static void good(String data, int... bytes) {
        PackedImage x = Images.cluster(data.length(), bytes);
        Checks.sameText("the data", Checks.outcome(() -> Images.data(x, 0)), data);
        Checks.same("check", x.check(), -1);
    }

    private static void bad(int size, int... bytes) {
        PackedImage x = Images.cluster(size, bytes);
        Checks.illegalState("the first byte", () -> x.read(0, 0));
        Checks.illegalState("the last byte", () -> x.read(0, size - 1));
        Checks.outOfBounds("no byte", () -> x.read(0, size));
        Checks.same("check", x.check(), 0);
    }

    private static void distanceZero() {
        bad(4, 0x11, 'a', 0);
        bad(4, 0x11, 'a', 0, 0x30, 'b', 'c', 'd');
    }

    private static void laterZero() {
        bad(3, 0x20, 'a', 'b', 0);
        bad(3, 0x20, 'a', 'b', 0, 0x10, 'c');
    }

    private static void secondLiteral() {
        bad(15, 0xD0, 1, 2, 3, 4, 5, 6, 7, 8, 9, 10, 11, 12, 13, 0x20, 14);
        bad(16, 0xD0, 1, 2, 3, 4, 5, 6, 7, 8, 9, 10, 11, 12, 13, 0x31, 14);
        bad(15, 0xC0, 1, 2, 3, 4, 5, 6, 7, 8, 9, 10, 11, 12, 0x30, 0x01, 1);
    }

    private static void lastBlock() {
        badInLastBlock(0xF0, 1, 2, 3, 4, 5, 6, 7, 8, 9, 10, 11, 12, 13, 14, 15);
        badInLastBlock(0xF1, 1, 2, 3, 4, 5, 6, 7, 8, 9, 10, 11, 12, 13, 14, 15);
        badInLastBlock(0xE0, 1, 2, 3, 4, 5, 6, 7, 8, 9, 10, 11, 12, 13, 14, 0x10);
        badInLastBlock(0xE0, 1, 2, 3, 4, 5, 6, 7, 8, 9, 10, 11, 12, 13, 14, 0x01);
        badInLastBlock(0xE0, 1, 2, 3, 4, 5, 6, 7, 8, 9, 10, 11, 12, 13, 14, 0xFF);
    }

    private static void badInLastBlock(int... bytes) {
        PackedImage x = Images.inode(Images.LONG | Images.FILE | Images.PACKED, 30, 63, 1, 1, 30);
        Images.lay(x, 1008, bytes);
        Images.header(x, 2, 64);
        x.mount();
        Checks.illegalState("a byte", () -> x.read(0, 0));
        Checks.same("check", x.check(), 0);
    }

    /** One literal and 7 matches stand for 1 + 7 * 17 bytes at most. */
    private static void most() {
        good("a".repeat(120), 0x1F, 'a', 1, 15, 1, 15, 1, 15, 1, 15, 1, 15, 1, 15, 1);
        bad(121, 0x1F, 'a', 1, 15, 1, 15, 1, 15, 1, 15, 1, 15, 1, 15, 1);
        bad(255, 0x1F, 'a', 1, 15, 1, 15, 1, 15, 1, 15, 1, 15, 1, 15, 1);
    }

    private static void literalsBeyond() {
        good("abcdefghijklmn",
                0xC0, 'a', 'b', 'c', 'd', 'e', 'f', 'g', 'h', 'i', 'j', 'k', 'l', 0xF0, 'm', 'n');
    }

    private static void firstOfMatch() {
        good("aba", 0x2F, 'a', 'b', 2);
        bad(3, 0x2F, 'a', 'b', 3);
        bad(3, 0x2F, 'a', 'b', 0);
    }

    /** Two clusters: each is unpacked by itself. */
    private static PackedImage two(int firstEnd, int size) {
        PackedImage x = new PackedImage();
        Images.lay(x, 16, Images.LONG | Images.FILE | Images.PACKED, size, 2, 1, 2, firstEnd, size);
        Images.header(x, 2, 4);
        return x;
    }

    private static void otherCluster() {
        PackedImage x = two(5, 9);
        Images.lay(x, 32, 0x50, 1, 2, 3, 4, 5);
        Images.lay(x, 48, 0x11, 6, 2);
        x.mount();
        Checks.same("a byte of the first", x.read(0, 4), 5);
        Checks.illegalState("D goes into the first", () -> x.read(0, 5));
        x.poke(50, 1);
        x.mount();
        Checks.same("D goes to its first byte", x.read(0, 8), 6);
    }

    private static void nextCluster() {
        PackedImage x = two(2, 4);
        Images.lay(x, 32, 0x40, 'a', 'b', 'c', 'd');
        Images.lay(x, 48, 0x20, 'x', 'y');
        x.mount();
        Checks.sameText("the data", Images.data(x, 0), "abxy");
    }
}
