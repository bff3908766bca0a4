/** Promise 12, and which clusters are bad. */
public final class ReadTest {
    public static void main(String[] args) {
        layouts();
        allKinds();
        wrong();
        goodClusters();
        badClusters();
        Checks.end();
    }

    private static void layouts() {
        String[] contents = {"", "x", "abcd", "abcde", Images.unlike(16, 1), Images.unlike(28, 1),
            Images.unlike(29, 1), Images.unlike(60, 1), "ab".repeat(30), "abcabcd".repeat(8), "\0".repeat(60)};
        for (int flags = 0; flags < 8; flags++) {
            PackedImage x = new PackedImage();
            for (int i = 0; i < contents.length; i++) {
                Images.file(x, 0, (char) ('a' + i), contents[i]);
            }
            x.build(flags);
            x.mount();
            for (int i = 0; i < contents.length; i++) {
                int inode = x.find(0, (char) ('a' + i));
                Checks.sameText("file " + i + " with flags " + flags, Images.data(x, inode), contents[i]);
            }
            Checks.same("check with flags " + flags, x.check(), -1);
        }
    }

    private static void allKinds() {
        PackedImage x = new PackedImage();
        Images.link(x, 0, 'l', "path");
        x.build(0);
        x.mount();
        Checks.sameText("a link's path", Images.data(x, 1), "path");
        Checks.sameText("a directory's entries", Images.data(x, 0), "l\u0001\u0002");
    }

    private static void wrong() {
        PackedImage x = new PackedImage();
        Checks.illegalState("nothing mounted comes first", () -> x.read(-1, -1));
        Images.file(x, 0, 'f', "12345");
        Images.file(x, 0, 'g', "");
        x.build(0);
        x.mount();
        Checks.outOfBounds("inode -1", () -> x.read(-1, 0));
        Checks.outOfBounds("inode 3", () -> x.read(3, 0));
        Checks.outOfBounds("byte -1", () -> x.read(1, -1));
        Checks.outOfBounds("byte 5", () -> x.read(1, 5));
        Checks.outOfBounds("at the edge of int", () -> x.read(1, Integer.MAX_VALUE));
        Checks.outOfBounds("a byte of an empty file", () -> x.read(2, 0));
        Checks.same("the last byte", x.read(1, 4), '5');
        PackedImage y = StatTest.inode(3 << 1, 3, 2);
        Checks.illegalState("a bad inode", () -> y.read(0, 0));
        Checks.illegalState("a bad inode comes before the byte", () -> y.read(0, 99));
        Checks.outOfBounds("no inode comes before it", () -> y.read(9, 0));
    }

    /** A file of one cluster, these bytes, and so many to be unpacked. */
    private static PackedImage cluster(int size, int... bytes) {
        PackedImage x = new PackedImage();
        Images.lay(x, 16, 1 | 1 << 1 | 2 << 3, size, 2, 1, 1, size);
        Images.lay(x, 32, bytes);
        // What a token, a literal or D would find behind the block is right by itself.
        Images.lay(x, 48, 1, 1, 1, 1, 1, 1, 1, 1, 1, 1, 1, 1, 1, 1, 1, 1);
        Images.header(x, 2, 4);
        x.mount();
        return x;
    }

    private static void good(String what, String data, int... bytes) {
        PackedImage x = cluster(data.length(), bytes);
        Checks.sameText(what, Checks.outcome(() -> Images.data(x, 0)), data);
        Checks.same(what + ", by check", x.check(), -1);
    }

    private static void bad(String what, int size, int... bytes) {
        PackedImage x = cluster(size, bytes);
        Checks.illegalState(what, () -> x.read(0, 0));
        Checks.illegalState(what + ", the last byte", () -> x.read(0, size - 1));
        Checks.outOfBounds(what + ", no byte", () -> x.read(0, size));
        Checks.same(what + ", by check", x.check(), 0);
    }

    private static void goodClusters() {
        good("literals", "abc", 0x30, 'a', 'b', 'c');
        good("a match that overlaps", "abababab", 0x24, 'a', 'b', 2);
        good("a token of a match alone", "aaaaaa", 0x10, 'a', 0x03, 1);
        good("the longest match", "a" + "a".repeat(17), 0x1F, 'a', 1);
        good("literals beyond the data", "ab", 0xF0, 'a', 'b');
        good("D beyond the data, which is 0", "ab", 0x2F, 'a', 'b', 0);
        good("a match beyond the data", "aaaa", 0x1F, 'a', 1);
        good("tokens beyond the data", "a", 0x10, 'a', 0, 0);
        good("a whole block", "abcdefghijklmno",
                0xF0, 'a', 'b', 'c', 'd', 'e', 'f', 'g', 'h', 'i', 'j', 'k', 'l', 'm', 'n', 'o');
        good("D in the last byte", "abcdefghijklmn" + "abc",
                0xE1, 'a', 'b', 'c', 'd', 'e', 'f', 'g', 'h', 'i', 'j', 'k', 'l', 'm', 'n', 14);
        good("D would lie behind the block and the data", "abcdefghijklmno",
                0xFF, 'a', 'b', 'c', 'd', 'e', 'f', 'g', 'h', 'i', 'j', 'k', 'l', 'm', 'n', 'o');
        good("D as large as there are bytes", "abcabc", 0x31, 'a', 'b', 'c', 3);
        good("many bytes", "a".repeat(1 + 17 * 7), 0x1F, 'a', 1, 15, 1, 15, 1, 15, 1, 15, 1, 15, 1, 15, 1);
    }

    private static void badClusters() {
        bad("a token 0", 1, 0);
        bad("a token 0 later", 3, 0x20, 'a', 'b', 0);
        bad("a token 0 with more behind it", 3, 0x20, 'a', 'b', 0, 0x10, 'c');
        bad("D is 0", 4, 0x11, 'a', 0);
        bad("D is more than the bytes there", 4, 0x11, 'a', 2);
        bad("D is 0, with more behind it", 4, 0x11, 'a', 0, 0x30, 'b', 'c', 'd');
        bad("a match at the beginning", 3, 0x01, 1);
        bad("a literal behind the block", 16, 0xE0, 1, 2, 3, 4, 5, 6, 7, 8, 9, 10, 11, 12, 13, 14, 0x20);
        bad("a literal behind the block, of a token with a match", 16,
                0xD0, 1, 2, 3, 4, 5, 6, 7, 8, 9, 10, 11, 12, 13, 0x21, 1);
        bad("a literal behind the block, with what could be a token before it", 15,
                0xC0, 1, 2, 3, 4, 5, 6, 7, 8, 9, 10, 11, 12, 0x30, 0x01, 1);
        bad("a token behind the block", 16, 0xF0, 1, 2, 3, 4, 5, 6, 7, 8, 9, 10, 11, 12, 13, 14, 15);
        bad("D behind the block", 16, 0xF1, 1, 2, 3, 4, 5, 6, 7, 8, 9, 10, 11, 12, 13, 14, 15);
        bad("a token of a match in the last byte", 15,
                0xE0, 1, 2, 3, 4, 5, 6, 7, 8, 9, 10, 11, 12, 13, 14, 0x01);
        bad("too many bytes for a block", 255, 0x1F, 'a', 1, 15, 1, 15, 1, 15, 1, 15, 1, 15, 1, 15, 1);
        PackedImage x = cluster(4, 0x11, 'a', 2);
        x.poke(18, 63);
        x.poke(4, 64);
        Images.lay(x, 1008, 0xF0, 1, 2, 3, 4);
        x.seal();
        x.mount();
        Checks.same("a cluster in the last block", x.read(0, 3), 4);
    }
}
