/** Promise 16. */
public final class CheckTest {
    public static void main(String[] args) {
        Checks.test("-1 if there is none", CheckTest::nothingWrong);
        Checks.test("-1 if there is none: no inode at all", CheckTest::noInode);
        Checks.test("the first inode, in their order: of two", CheckTest::firstOfTwo);
        Checks.test("the first inode, in their order: inode 0", CheckTest::root);
        Checks.test("the first inode, in their order: the last one", CheckTest::last);
        Checks.test("the first inode, in their order: number 125", CheckTest::lastOfAll);
        Checks.test("that is bad", CheckTest::bad);
        Checks.test("has a bad cluster: each of them", CheckTest::badClusters);
        Checks.test("has a bad cluster: a good one is none", CheckTest::goodClusters);
        Checks.test("entries that do not rise by name: alike", () -> spoilt(0, 67, 'b'));
        Checks.test("entries that do not rise by name: falling", () -> spoilt(0, 67, 'a'));
        Checks.test("entries that do not rise by name: the last one", () -> spoilt(0, 70, 'd'));
        Checks.test("entries that do not rise by name: by one they do", () -> spoilt(-1, 67, 'c'));
        Checks.test("entries that do not rise by name: a first name 0", () -> spoilt(-1, 64, 0));
        Checks.test("entries that do not rise by name: 128 and 255", CheckTest::highNames);
        Checks.test("entries that do not rise by name: one alone", CheckTest::oneEntry);
        Checks.test("one with an inode that is none: as many as there are", () -> spoilt(0, 65, 5));
        Checks.test("one with an inode that is none: 255", () -> spoilt(0, 65, 255));
        Checks.test("one with an inode that is none: the last entry", () -> spoilt(0, 71, 126));
        Checks.test("one with an inode that is none: a second slot", CheckTest::secondSlot);
        Checks.test("one with an inode that is none: another one is right", () -> spoilt(-1, 65, 4));
        Checks.test("whose kind is another one", () -> spoilt(0, 66, 2));
        Checks.test("whose kind is another one: the last entry", () -> spoilt(0, 72, 1));
        Checks.test("whose kind is another one: more bits", () -> spoilt(0, 66, 5));
        Checks.test("whose kind is another one: that of the inode", CheckTest::kindOfInode);
        Checks.test("whose kind is another one: 3 of kind 3 is not", CheckTest::kind3);
        Checks.test("a directory: one further on", CheckTest::furtherOn);
        Checks.test("a directory: entries of no other kind are looked at", CheckTest::onlyDirectories);
        Checks.test("a directory: TAILED", CheckTest::tailed);
        Checks.test("a directory: empty", CheckTest::empty);
        Checks.test("a directory: 85 entries", CheckTest::most);
        Checks.test("other wrongs are none: counts, bytes behind data", CheckTest::otherWrongs);
        Checks.test("the cache is not used", CheckTest::noCache);
        Checks.test("if nothing is mounted", CheckTest::notMounted);
        Checks.end();
    }

    /** Inodes 0 the root, 1 a file, 2 a link, 3 a directory with 4, a file; the root's data in block 4. */
    private static PackedImage image() {
        PackedImage x = new PackedImage();
        Images.file(x, 0, 'b', "file");
        Images.link(x, 0, 'd', "b");
        Images.directory(x, 0, 'f');
        Images.file(x, 3, 'x', "x");
        x.build(0);
        return x;
    }

    private static void spoilt(int due, int at, int b) {
        PackedImage x = image();
        x.poke(at, b);
        x.mount();
        Checks.same("check with " + b + " at " + at, x.check(), due);
    }

    private static void nothingWrong() {
        spoilt(-1, 1000, 0);
        PackedImage x = new PackedImage();
        x.build(0);
        x.mount();
        Checks.same("an empty root", x.check(), -1);
    }

    private static void noInode() {
        PackedImage x = Images.inode(Images.LONG | Images.KIND_3);
        Images.header(x, 1, 2);
        Checks.same("inodes", x.mount(), 0);
        Checks.same("check", x.check(), -1);
    }

    private static void firstOfTwo() {
        PackedImage x = image();
        x.poke(16 + 4 * 8 + 2, 99);
        x.poke(16 + 2 * 8 + 2, 99);
        x.mount();
        Checks.same("check", x.check(), 2);
    }

    private static void root() {
        spoilt(0, 16, Images.KIND_3);
        spoilt(0, 17, 10);
    }

    private static void last() {
        spoilt(4, 16 + 4 * 8 + 2, 99);
    }

    private static void lastOfAll() {
        PackedImage x = new PackedImage();
        x.poke(16 + 125 * 8, Images.KIND_3);
        Images.header(x, 126, 64);
        x.mount();
        Checks.same("check", x.check(), 125);
    }

    private static void bad() {
        spoilt(1, 16 + 8 + 2, 99);
        spoilt(2, 16 + 16 + 2, 3);
        spoilt(3, 16 + 24 + 1, 4);
    }

    private static void badClusters() {
        for (int number = 0; number < 3; number++) {
            PackedImage x = Images.withFile(Images.threeClusters());
            x.build(4);
            x.poke((4 + number) * 16, 0);
            x.mount();
            Checks.same("number " + number, x.check(), 1);
        }
        PackedImage y = Images.withFile("a".repeat(40));
        Images.file(y, 0, 'g', "b".repeat(40));
        y.build(4);
        y.poke(6 * 16, 0);
        y.mount();
        Checks.same("of a second file", y.check(), 3);
    }

    private static void goodClusters() {
        PackedImage x = Images.mountedFile(Images.threeClusters(), 4);
        Checks.same("check", x.check(), -1);
        Checks.same("check again", x.check(), -1);
    }

    private static void highNames() {
        PackedImage x = Images.directoryOf(127, 0, 0, 128, 0, 0, 255, 0, 0);
        Checks.same("rising", x.check(), -1);
        PackedImage y = Images.directoryOf(127, 0, 0, 255, 0, 0, 128, 0, 0);
        Checks.same("falling", y.check(), 0);
    }

    private static void oneEntry() {
        Checks.same("0", Images.directoryOf(0, 0, 0).check(), -1);
        Checks.same("255", Images.directoryOf(255, 0, 0).check(), -1);
    }

    private static void secondSlot() {
        PackedImage x = new PackedImage();
        Images.file(x, 0, 'a', "tail tail");
        Images.file(x, 0, 'b', "tail tail");
        x.build(1);
        x.mount();
        Checks.same("as built", x.check(), -1);
        x.poke(16 + 4 + 1, 3);
        x.mount();
        Checks.same("check", x.check(), 0);
    }

    private static void kindOfInode() {
        PackedImage x = image();
        x.poke(16 + 8, Images.LINK);
        x.mount();
        Checks.same("a file that is a link now", x.check(), 0);
        spoilt(0, 16 + 8, Images.KIND_3);
    }

    private static void kind3() {
        PackedImage x = image();
        x.poke(16 + 8, Images.KIND_3);
        x.poke(66, 3);
        x.mount();
        Checks.same("the inode itself is bad", x.check(), 1);
    }

    private static void furtherOn() {
        PackedImage x = image();
        x.poke(x.peek(16 + 3 * 8 + 2) * 16 + 1, 9);
        x.mount();
        Checks.same("check", x.check(), 3);
    }

    private static void onlyDirectories() {
        Checks.same("a file", Images.inode(Images.FILE, 6, 2).check(), -1);
        Checks.same("a link", Images.inode(Images.LINK, 6, 2).check(), -1);
        Checks.same("a directory", Images.inode(0, 6, 2).check(), 0);
    }

    private static void tailed() {
        PackedImage x = Images.inode(Images.TAILED, 3, 0, 1, 'a', 1, 0);
        Checks.same("right", x.check(), -1);
        x.poke(21, 2);
        x.mount();
        Checks.same("an inode that is none", x.check(), 0);
        PackedImage y = Images.inode(Images.TAILED, 18, 2, 1, 1, 0);
        Images.lay(y, 32, 'a', 0, 0, 'b', 0, 0, 'c', 0, 0, 'd', 0, 0, 'e', 0, 0, 'f');
        y.mount();
        Checks.same("an entry in block and tail", y.check(), -1);
        y.poke(47, 'e');
        y.mount();
        Checks.same("its name does not rise", y.check(), 0);
        y.poke(47, 'f');
        y.poke(21, 1);
        y.mount();
        Checks.same("its kind is another one", y.check(), 0);
    }

    private static void empty() {
        Checks.same("check", Images.inode(0, 0, 9).check(), -1);
    }

    private static void most() {
        PackedImage x = Images.inode(0, 255, 2);
        for (int i = 0; i < 85; i++) {
            Images.lay(x, 32 + 3 * i, 3 * i, 0, 0);
        }
        Images.header(x, 2, 18);
        x.mount();
        Checks.same("all right", x.check(), -1);
        x.poke(32 + 254, 1);
        x.mount();
        Checks.same("the last kind is wrong", x.check(), 0);
    }

    private static void otherWrongs() {
        spoilt(-1, 19, 9);
        spoilt(-1, 24 + 3, 0);
        spoilt(-1, 24 + 7, 255);
        spoilt(-1, 73, 255);
        spoilt(-1, 1023, 255);
    }

    private static void noCache() {
        PackedImage x = Images.mountedFile(Images.threeClusters(), 4);
        Checks.same("check", x.check(), -1);
        Checks.same("misses", x.cache(false), 0);
        x.read(1, 0);
        x.read(1, 15);
        x.check();
        Checks.same("hits", x.cache(true), 0);
        Checks.same("misses then", x.cache(false), 2);
        Checks.same("the second is kept", x.read(1, 15), 40);
        Checks.same("the first is kept", x.read(1, 0), 20);
        Checks.same("hits then", x.cache(true), 2);
        x.read(1, 30);
        Checks.same("the third was not", x.cache(false), 3);
    }

    private static void notMounted() {
        PackedImage x = image();
        Checks.illegalState("built", () -> x.check());
        x.mount();
        Checks.same("mounted", x.check(), -1);
        x.build(0);
        Checks.illegalState("built again", () -> x.check());
        Checks.illegalState("a new object", () -> new PackedImage().check());
    }
}
