/** Promise 11, and which inodes are bad. */
public final class StatTest {
    public static void main(String[] args) {
        answers();
        wrong();
        badKinds();
        badTails();
        badClusters();
        badBlocks();
        Checks.end();
    }

    private static void answers() {
        PackedImage x = new PackedImage();
        Images.lay(x, 24, 0xE0 | 1 | 1 << 1 | 2 << 3, 200, 77, 250, 9);
        Images.header(x, 3, 3);
        x.mount();
        Checks.same("kind", x.stat(1, 0), 1);
        Checks.same("layout", x.stat(1, 1), 2);
        Checks.same("size", x.stat(1, 2), 200);
        Checks.same("count", x.stat(1, 3), 250);
        Checks.same("first block", x.stat(1, 4), 77);
        Checks.same("bad", x.stat(1, 5), 1);
        Checks.same("the root is not", x.stat(0, 5), 0);
    }

    private static void wrong() {
        PackedImage x = new PackedImage();
        Checks.illegalState("nothing mounted comes first", () -> x.stat(-1, -1));
        x.build(0);
        Checks.illegalState("built is not mounted", () -> x.stat(0, 0));
        x.mount();
        Checks.outOfBounds("inode -1", () -> x.stat(-1, 0));
        Checks.outOfBounds("inode 1", () -> x.stat(1, 0));
        Checks.outOfBounds("inode 126", () -> x.stat(126, 0));
        Checks.outOfBounds("at the edge of int", () -> x.stat(Integer.MAX_VALUE, 0));
        Checks.outOfBounds("the inode comes before what", () -> x.stat(1, 6));
        Checks.illegalArgument("what 6", () -> x.stat(0, 6));
        Checks.illegalArgument("what -1", () -> x.stat(0, -1));
    }

    /** Inode 0 of these bytes; slots in block 1, used blocks up to 7. */
    static PackedImage inode(int... bytes) {
        PackedImage x = new PackedImage();
        Images.lay(x, 16, bytes);
        Images.header(x, 2, 8);
        x.mount();
        return x;
    }

    private static void bad(String what, int... bytes) {
        Checks.same(what, inode(bytes).stat(0, 5), 1);
    }

    private static void good(String what, int... bytes) {
        Checks.same(what, inode(bytes).stat(0, 5), 0);
    }

    private static void badKinds() {
        bad("kind 3", 3 << 1);
        bad("layout 3", 3 << 3);
        bad("long of layout 3", 1 | 3 << 3);
        bad("a directory of 4 bytes", 0, 4, 2);
        bad("a directory of 4 bytes in its tail", 1 << 3, 4);
        good("a directory of 6 bytes", 0, 6, 2);
        good("an empty link", 2 << 1);
        good("an empty file with a first block", 1 << 1, 0, 99);
        good("bits that say nothing", 0xE0 | 1 << 1, 0, 0);
        bad("a short PACKED file", 1 << 1 | 2 << 3, 1, 2, 1, 1, 1);
        bad("a PACKED directory", 1 | 2 << 3, 3, 2, 1, 1, 3);
        bad("a PACKED link", 1 | 2 << 1 | 2 << 3, 3, 2, 1, 1, 3);
    }

    private static void badTails() {
        int file = 1 << 1 | 1 << 3;
        good("a tail of 4", file, 20, 2);
        bad("a tail of 5", file, 21, 2);
        good("a tail of 12 in a long one", file | 1, 28, 2);
        bad("a tail of 13 in a long one", file | 1, 29, 2);
        good("no tail", file, 32, 2);
        bad("a tail of 15", file | 1, 15, 0);
        good("a tail alone needs no block", file | 1, 12, 200);
    }

    private static void badClusters() {
        int packed = 1 | 1 << 1 | 2 << 3;
        good("one cluster", packed, 5, 2, 1, 1, 5);
        bad("no cluster", packed, 0, 2, 1, 0, 0);
        bad("no cluster, but a size", packed, 5, 2, 1, 0, 5);
        good("clusters to the end", packed, 6, 2, 1, 6, 1, 2, 3, 4, 5, 6);
        bad("one behind the used blocks", packed, 7, 2, 1, 7, 1, 2, 3, 4, 5, 6, 7);
        bad("the last end is not the size", packed, 6, 2, 1, 1, 5);
        bad("the first end is 0", packed, 5, 2, 1, 2, 0, 5);
        bad("ends alike", packed, 5, 2, 1, 3, 2, 2, 5);
        bad("ends that fall", packed, 5, 2, 1, 3, 6, 2, 5);
        good("ends up to 255", packed, 255, 2, 1, 2, 254, 255);
        PackedImage x = new PackedImage();
        Images.lay(x, 16, packed, 11, 2, 1, 11, 1, 2, 3, 4, 5, 6, 7, 8, 9, 10, 11);
        Images.header(x, 2, 13);
        x.mount();
        Checks.same("11 clusters", x.stat(0, 5), 0);
        x.poke(20, 12);
        x.mount();
        Checks.same("12 clusters", x.stat(0, 5), 1);
        Images.lay(x, 32, 12);
        x.poke(17, 12);
        Images.header(x, 3, 20);
        Images.lay(x, 18, 3);
        x.mount();
        Checks.same("12 clusters, with a right end behind the inode", x.stat(0, 5), 1);
        x.poke(20, 255);
        x.mount();
        Checks.same("255 clusters", x.stat(0, 5), 1);
    }

    private static void badBlocks() {
        int file = 1 << 1;
        good("first block behind the slots", file, 16, 2);
        bad("a block of slots", file, 16, 1);
        bad("block 0", file, 1, 0);
        good("the last used block", file, 16, 7);
        bad("17 bytes from there", file, 17, 7);
        bad("a block that is not used", file, 1, 8);
        bad("block 255", file, 1, 255);
        good("six blocks", file, 96, 2);
        bad("seven blocks", file, 97, 2);
        good("whole blocks before a tail", file | 1 << 3, 97, 2);
        bad("whole blocks before a tail, not used", file | 1 << 3, 113, 2);
        PackedImage x = new PackedImage();
        Images.lay(x, 16, file, 16, 2);
        Images.header(x, 3, 8);
        x.mount();
        Checks.same("a block with one slot in it is not behind the slots", x.stat(0, 5), 1);
    }
}
