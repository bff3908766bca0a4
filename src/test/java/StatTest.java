/** Promise 11, and which inodes are bad. */
public final class StatTest {
    private static final int FILE = Images.FILE;
    private static final int TAILED = Images.FILE | Images.TAILED;
    private static final int PACKED = Images.LONG | Images.FILE | Images.PACKED;

    public static void main(String[] args) {
        Checks.test("its kind (what = 0)", StatTest::kinds);
        Checks.test("layout (1)", StatTest::layouts);
        Checks.test("size (2): 0 and 255", () -> edges(2, 1));
        Checks.test("count (3): 0 and 255", () -> edges(3, 3));
        Checks.test("first block (4): 0 and 255", () -> edges(4, 2));
        Checks.test("1 if it is bad, else 0 (5)", StatTest::badOrNot);
        Checks.test("of an inode: a bad one, too", StatTest::ofBadOne);
        Checks.test("if nothing is mounted", StatTest::notMounted);
        Checks.test("if there is no such inode: below", StatTest::inodeTooSmall);
        Checks.test("if there is no such inode: above", StatTest::inodeTooLarge);
        Checks.test("if there is no such inode: the second slot of a long one", StatTest::secondSlot);
        Checks.test("if there is no such what", StatTest::noWhat);
        Checks.test("if there is no such inode, nor such a what", StatTest::neither);
        Checks.test("BAD: its kind is 3", StatTest::kind3);
        Checks.test("BAD: its layout is 3", StatTest::layout3);
        Checks.test("an inode takes one slot or two: PLAIN and TAILED either", StatTest::eitherLength);
        Checks.test("bits 5 .. 7 of byte 0 say nothing", StatTest::otherBits);
        Checks.test("BAD: PACKED and no long file: short", () -> bad("short", FILE | Images.PACKED, 1, 2, 1, 1, 1));
        Checks.test("BAD: PACKED and no long file: a directory",
                () -> bad("a directory", Images.LONG | Images.PACKED, 3, 2, 1, 1, 3));
        Checks.test("BAD: PACKED and no long file: a link",
                () -> bad("a link", Images.LONG | Images.LINK | Images.PACKED, 3, 2, 1, 1, 3));
        Checks.test("BAD: a directory's size is no multiple of 3", StatTest::directorySizes);
        Checks.test("BAD: a directory's size is no multiple of 3: in its tail", StatTest::tailedDirectory);
        Checks.test("BAD: the tail has no room in the rest: short", StatTest::shortTail);
        Checks.test("BAD: the tail has no room in the rest: long", StatTest::longTail);
        Checks.test("BAD: the tail has no room in the rest: no tail", StatTest::noTail);
        Checks.test("BAD: PACKED with no clusters", StatTest::noClusters);
        Checks.test("BAD: PACKED with more than 11 clusters", StatTest::manyClusters);
        Checks.test("BAD: ends that do not rise", StatTest::ends);
        Checks.test("BAD: ends, the first one above 0", StatTest::firstEnd);
        Checks.test("BAD: ends, the last of which is not the size", StatTest::lastEnd);
        Checks.test("BAD: ends behind the clusters do not count", StatTest::endsBehind);
        Checks.test("BAD: blocks are not used ones behind the slots: before", StatTest::blocksBefore);
        Checks.test("BAD: blocks are not used ones behind the slots: an odd slot", StatTest::besideSlot);
        Checks.test("BAD: blocks are not used ones behind the slots: behind", StatTest::blocksBehind);
        Checks.test("BAD: blocks are not used ones behind the slots: the last of several", StatTest::lastOfSeveral);
        Checks.test("BAD: blocks are not used ones behind the slots: PACKED", StatTest::blocksOfPacked);
        Checks.test("BAD: blocks are not used ones behind the slots: TAILED", StatTest::blocksOfTailed);
        Checks.test("BAD: blocks are not used ones behind the slots: block 63", StatTest::lastBlock);
        Checks.test("BAD: blocks it needs: none", StatTest::noBlocks);
        Checks.test("BAD: blocks it needs: 255 bytes", StatTest::largest);
        Checks.test("an inode that was built is not bad", StatTest::built);
        Checks.end();
    }

    private static void bad(String what, int... bytes) {
        Checks.same(what, Images.inode(bytes).stat(0, 5), 1);
    }

    private static void good(String what, int... bytes) {
        Checks.same(what, Images.inode(bytes).stat(0, 5), 0);
    }

    private static void kinds() {
        for (int kind = 0; kind <= 3; kind++) {
            Checks.same("kind " + kind, Images.inode(kind << 1).stat(0, 0), kind);
            Checks.same("kind " + kind + " among other bits", Images.inode(0xF9 | kind << 1).stat(0, 0), kind);
        }
    }

    private static void layouts() {
        for (int layout = 0; layout <= 3; layout++) {
            Checks.same("layout " + layout, Images.inode(layout << 3).stat(0, 1), layout);
            Checks.same("layout " + layout + " among other bits", Images.inode(0xE7 | layout << 3).stat(0, 1), layout);
        }
    }

    private static void edges(int what, int at) {
        int[] bytes = {FILE, 7, 7, 7};
        bytes[at] = 0;
        Checks.same("0", Images.inode(bytes).stat(0, what), 0);
        bytes[at] = 255;
        Checks.same("255", Images.inode(bytes).stat(0, what), 255);
    }

    private static void badOrNot() {
        good("an empty directory", 0);
        bad("kind 3", Images.KIND_3);
    }

    private static void ofBadOne() {
        PackedImage x = new PackedImage();
        Images.lay(x, 24, 0xE0 | PACKED, 200, 77, 250, 9);
        Images.header(x, 3, 3);
        x.mount();
        int[] due = {1, 2, 200, 250, 77, 1};
        for (int what = 0; what <= 5; what++) {
            Checks.same("what " + what, x.stat(1, what), due[what]);
        }
        Checks.same("the root is not bad", x.stat(0, 5), 0);
    }

    private static void notMounted() {
        PackedImage x = new PackedImage();
        Checks.illegalState("a new object", () -> x.stat(0, 0));
        Checks.illegalState("before no such inode", () -> x.stat(-1, 0));
        Checks.illegalState("before no such what", () -> x.stat(0, 6));
        x.build(0);
        Checks.illegalState("built is not mounted", () -> x.stat(0, 0));
    }

    private static void inodeTooSmall() {
        PackedImage x = Images.mountedFile("", 0);
        Checks.outOfBounds("-1", () -> x.stat(-1, 0));
        Checks.outOfBounds("the least int", () -> x.stat(Integer.MIN_VALUE, 0));
        Checks.same("0", x.stat(0, 0), 0);
    }

    private static void inodeTooLarge() {
        PackedImage x = Images.mountedFile("", 0);
        Checks.same("1", x.stat(1, 0), 1);
        Checks.outOfBounds("2", () -> x.stat(2, 0));
        Checks.outOfBounds("126", () -> x.stat(126, 0));
        Checks.outOfBounds("255", () -> x.stat(255, 0));
        Checks.outOfBounds("the largest int", () -> x.stat(Integer.MAX_VALUE, 0));
    }

    private static void secondSlot() {
        PackedImage x = Images.mountedFile("12345", 1);
        Checks.same("inode 1", x.stat(1, 2), 5);
        Checks.outOfBounds("2", () -> x.stat(2, 2));
        PackedImage y = Images.inode(Images.LONG | FILE);
        Checks.outOfBounds("1", () -> y.stat(1, 2));
    }

    private static void noWhat() {
        PackedImage x = Images.mountedFile("", 0);
        Checks.illegalArgument("-1", () -> x.stat(0, -1));
        Checks.illegalArgument("6", () -> x.stat(0, 6));
        Checks.illegalArgument("the least int", () -> x.stat(0, Integer.MIN_VALUE));
        Checks.illegalArgument("the largest int", () -> x.stat(0, Integer.MAX_VALUE));
        Checks.illegalArgument("of a bad inode", () -> Images.inode(Images.KIND_3).stat(0, 6));
    }

    private static void neither() {
        PackedImage x = Images.mountedFile("", 0);
        Checks.outOfBounds("the inode is told first", () -> x.stat(2, 6));
    }

    private static void kind3() {
        bad("short", Images.KIND_3);
        bad("long", Images.LONG | Images.KIND_3);
        bad("TAILED", Images.KIND_3 | Images.TAILED, 3);
        good("kind 2 is right", Images.LINK);
    }

    private static void layout3() {
        bad("a directory", Images.LAYOUT_3);
        bad("a file", FILE | Images.LAYOUT_3, 3, 2);
        bad("a long file", PACKED | Images.LAYOUT_3, 5, 2, 1, 1, 5);
        bad("a link", Images.LINK | Images.LAYOUT_3);
    }

    private static void eitherLength() {
        good("a long PLAIN file", Images.LONG | FILE, 16, 2);
        good("a long PLAIN directory", Images.LONG, 3, 2);
        good("a long PLAIN link", Images.LONG | Images.LINK, 4, 2);
        good("a long TAILED one with a tail of 1", Images.LONG | TAILED, 1);
        good("a short TAILED one with a tail of 1", TAILED, 1);
    }

    private static void otherBits() {
        good("an empty file", 0xE0 | FILE);
        good("a PACKED file", 0xE0 | PACKED, 5, 2, 1, 1, 5);
    }

    private static void directorySizes() {
        good("0", 0, 0, 2);
        bad("1", 0, 1, 2);
        bad("2", 0, 2, 2);
        good("3", 0, 3, 2);
        bad("4", 0, 4, 2);
        good("96", 0, 96, 2);
        good("a file of 4", FILE, 4, 2);
        good("a link of 4", Images.LINK, 4, 2);
    }

    private static void tailedDirectory() {
        good("3", Images.TAILED, 3);
        bad("4", Images.TAILED, 4);
        good("18", Images.TAILED, 18, 2);
        bad("17", Images.TAILED, 17, 2);
    }

    private static void shortTail() {
        good("4", TAILED, 4);
        bad("5", TAILED, 5);
        good("20", TAILED, 20, 2);
        bad("21", TAILED, 21, 2);
        bad("31", TAILED, 31, 2);
        bad("a directory of 6", Images.TAILED, 6);
        bad("a link of 5", Images.LINK | Images.TAILED, 5);
    }

    private static void longTail() {
        good("12", Images.LONG | TAILED, 12);
        bad("13", Images.LONG | TAILED, 13);
        bad("15", Images.LONG | TAILED, 15);
        good("28", Images.LONG | TAILED, 28, 2);
        bad("29", Images.LONG | TAILED, 29, 2);
    }

    private static void noTail() {
        good("0", TAILED, 0);
        good("16", TAILED, 16, 2);
        good("32", TAILED, 32, 2);
        good("13 PLAIN", FILE, 13, 2);
    }

    private static void noClusters() {
        bad("and no size", PACKED, 0, 2, 1, 0, 0);
        bad("but a size", PACKED, 5, 2, 1, 0, 5);
        good("one", PACKED, 5, 2, 1, 1, 5);
    }

    /** Slots 0 .. 2, data from block 3 on; the third slot begins with what would be a right twelfth end. */
    private static PackedImage clusters(int count, int size) {
        PackedImage x = new PackedImage();
        Images.lay(x, 16, PACKED, size, 3, 1, count, 1, 2, 3, 4, 5, 6, 7, 8, 9, 10, 11, 12);
        Images.header(x, 3, 20);
        x.mount();
        return x;
    }

    private static void manyClusters() {
        Checks.same("11", clusters(11, 11).stat(0, 5), 0);
        Checks.same("12", clusters(12, 12).stat(0, 5), 1);
        Checks.same("12, and the size of 11", clusters(12, 11).stat(0, 5), 1);
        Checks.same("255", clusters(255, 11).stat(0, 5), 1);
    }

    private static void ends() {
        bad("alike", PACKED, 5, 2, 1, 3, 2, 2, 5);
        bad("the last two alike", PACKED, 5, 2, 1, 3, 2, 5, 5);
        bad("falling", PACKED, 5, 2, 1, 3, 6, 2, 5);
        bad("the last one falling", PACKED, 5, 2, 1, 3, 2, 6, 5);
        good("by one each", PACKED, 3, 2, 1, 3, 1, 2, 3);
        good("up to 255", PACKED, 255, 2, 1, 2, 254, 255);
    }

    private static void firstEnd() {
        bad("0", PACKED, 5, 2, 1, 2, 0, 5);
        bad("0, of one cluster", PACKED, 0, 2, 1, 1, 0);
        good("1", PACKED, 5, 2, 1, 2, 1, 5);
        good("1, of one cluster", PACKED, 1, 2, 1, 1, 1);
    }

    private static void lastEnd() {
        bad("less", PACKED, 6, 2, 1, 1, 5);
        bad("more", PACKED, 4, 2, 1, 1, 5);
        bad("the size is the first one", PACKED, 2, 2, 1, 2, 2, 5);
        bad("the size is 0", PACKED, 0, 2, 1, 1, 5);
    }

    private static void endsBehind() {
        good("0 behind them", PACKED, 5, 2, 1, 2, 2, 5, 0, 7);
        good("what falls behind them", PACKED, 5, 2, 1, 1, 5, 4, 3);
    }

    private static void blocksBefore() {
        good("block 2", FILE, 16, 2);
        bad("block 1", FILE, 16, 1);
        bad("block 0", FILE, 1, 0);
        bad("block 1, and others behind it", FILE, 40, 1);
    }

    private static void besideSlot() {
        PackedImage x = new PackedImage();
        Images.lay(x, 16, FILE, 16, 2, 1, 0, 0, 0, 0, FILE, 16, 3);
        Images.header(x, 3, 8);
        x.mount();
        Checks.same("a block with one slot in it", x.stat(0, 5), 1);
        Checks.same("the next one", x.stat(1, 5), 0);
    }

    private static void blocksBehind() {
        good("block 7", FILE, 16, 7);
        bad("block 8", FILE, 1, 8);
        bad("block 63", FILE, 1, 63);
        bad("block 64", FILE, 1, 64);
        bad("block 255", FILE, 1, 255);
    }

    private static void lastOfSeveral() {
        bad("17 bytes from block 7", FILE, 17, 7);
        good("32 bytes from block 6", FILE, 32, 6);
        good("six blocks", FILE, 96, 2);
        bad("seven blocks", FILE, 97, 2);
    }

    private static void blocksOfPacked() {
        good("six clusters", PACKED, 6, 2, 1, 6, 1, 2, 3, 4, 5, 6);
        bad("seven clusters", PACKED, 7, 2, 1, 7, 1, 2, 3, 4, 5, 6, 7);
        bad("block 1", PACKED, 1, 1, 1, 1, 1);
        bad("block 8", PACKED, 1, 8, 1, 1, 1);
        good("one cluster in block 7, of 255 bytes", PACKED, 255, 7, 1, 1, 255);
        bad("no first block", PACKED, 1, 0, 1, 1, 1);
    }

    private static void blocksOfTailed() {
        good("six whole blocks and a tail", TAILED, 97, 2);
        bad("seven whole blocks", TAILED, 112, 2);
        bad("block 1", TAILED, 17, 1);
        bad("block 8", TAILED, 17, 8);
        good("block 7", TAILED, 17, 7);
    }

    private static void lastBlock() {
        PackedImage x = Images.inode(FILE, 16, 63);
        Images.header(x, 2, 64);
        x.mount();
        Checks.same("it is used", x.stat(0, 5), 0);
        Images.header(x, 2, 63);
        x.mount();
        Checks.same("it is not used", x.stat(0, 5), 1);
        PackedImage y = Images.inode(FILE, 17, 63);
        Images.header(y, 2, 64);
        y.mount();
        Checks.same("two from there on", y.stat(0, 5), 1);
    }

    private static void noBlocks() {
        good("an empty file with a first block", FILE, 0, 99);
        good("an empty directory with a first block", 0, 0, 1);
        good("a tail alone with a first block", TAILED, 4, 200);
        PackedImage x = Images.inode(FILE);
        Images.header(x, 2, 2);
        x.mount();
        Checks.same("no blocks behind the slots are used", x.stat(0, 5), 0);
    }

    private static void largest() {
        PackedImage x = Images.inode(FILE, 255, 2);
        Images.header(x, 2, 18);
        x.mount();
        Checks.same("16 blocks are there", x.stat(0, 5), 0);
        Images.header(x, 2, 17);
        x.mount();
        Checks.same("15 blocks are there", x.stat(0, 5), 1);
    }

    private static void built() {
        PackedImage x = new PackedImage();
        Images.directory(x, 0, 'a');
        Images.file(x, 1, 'b', Images.unlike(29, 1));
        Images.file(x, 1, 'c', "a".repeat(40));
        Images.link(x, 0, 'd', "abcd");
        for (int flags = 0; flags < 8; flags++) {
            x.build(flags);
            x.mount();
            for (int path : new int[] {0, Images.path("a"), Images.path("ab"), Images.path("ac")}) {
                Checks.same("with flags " + flags, x.stat(x.resolve(path), 5), 0);
            }
            Checks.same("the link with flags " + flags, x.stat(x.find(0, 'd'), 5), 0);
        }
    }
}
