/** Promise 13. */
public final class FindTest {
    public static void main(String[] args) {
        Checks.test("the inode of a directory's entry: every second letter", FindTest::everySecond);
        Checks.test("the inode of a directory's entry: all 26", FindTest::all);
        Checks.test("the inode of a directory's entry: one", FindTest::one);
        Checks.test("the inode of a directory's entry: not the root's", FindTest::otherDirectory);
        Checks.test("the inode of a directory's entry: one that is none", FindTest::noneAtAll);
        Checks.test("-1 if there is none: an empty directory", FindTest::empty);
        Checks.test("-1 if there is none: before the first, behind the last", FindTest::outside);
        Checks.test("-1 if there is none: no letter", FindTest::noLetter);
        Checks.test("-1 if there is none: what lies behind its data", FindTest::behindData);
        Checks.test("by its name's byte: 0 and 255", FindTest::edgesOfBytes);
        Checks.test("by its name's byte: one of more than 8 bits", FindTest::wide);
        Checks.test("number (from + to) / 2 is looked at, first all: two", FindTest::two);
        Checks.test("number (from + to) / 2 is looked at, first all: four", FindTest::four);
        Checks.test("those before it are looked at next", FindTest::before);
        Checks.test("those behind it are looked at next", FindTest::behind);
        Checks.test("found by halves: 85 entries", FindTest::most);
        Checks.test("if nothing is mounted", FindTest::notMounted);
        Checks.test("if there is no such inode", FindTest::noInode);
        Checks.test("if it is no directory: a file", () -> noDirectory(Images.FILE));
        Checks.test("if it is no directory: a link", () -> noDirectory(Images.LINK));
        Checks.test("if it is no directory: kind 3", () -> noDirectory(Images.KIND_3));
        Checks.test("if it is bad", FindTest::bad);
        Checks.test("the first of these: nothing is mounted, no such inode", FindTest::mountFirst);
        Checks.test("the first of these: no directory, it is bad", FindTest::kindFirst);
        Checks.test("found: entries need not be right", FindTest::spoilt);
        Checks.end();
    }

    private static void everySecond() {
        for (int flags = 0; flags < 8; flags++) {
            PackedImage x = new PackedImage();
            int file = Images.file(x, 0, 'a', "");
            for (int letter = 2; letter < 26; letter += 2) {
                x.link(file, 0, (char) ('a' + letter));
            }
            x.build(flags);
            x.mount();
            int inode = flags % 2 == 0 ? 1 : 2;
            for (int letter = 0; letter < 26; letter++) {
                Checks.same("letter " + letter, x.find(0, (char) ('a' + letter)), letter % 2 == 0 ? inode : -1);
            }
        }
    }

    private static void all() {
        PackedImage x = Images.withFile("");
        Images.directory(x, 0, 'd');
        for (char name = 'a'; name <= 'z'; name++) {
            x.link(1, 2, name);
        }
        x.build(0);
        x.mount();
        for (char name = 'a'; name <= 'z'; name++) {
            Checks.same("" + name, x.find(2, name), 1);
        }
    }

    private static void one() {
        PackedImage x = Images.mountedFile("", 0);
        Checks.same("f", x.find(0, 'f'), 1);
        Checks.same("e", x.find(0, 'e'), -1);
        Checks.same("g", x.find(0, 'g'), -1);
    }

    private static void otherDirectory() {
        PackedImage x = new PackedImage();
        Images.directory(x, 0, 'd');
        Images.file(x, 1, 'f', "");
        x.build(0);
        x.mount();
        Checks.same("f in d", x.find(1, 'f'), 2);
        Checks.same("f in the root", x.find(0, 'f'), -1);
        Checks.same("d in d", x.find(1, 'd'), -1);
    }

    private static void noneAtAll() {
        PackedImage x = Images.directoryOf('a', 200, 9, 'b', 255, 0);
        Checks.same("200", x.find(0, 'a'), 200);
        Checks.same("255", x.find(0, 'b'), 255);
    }

    private static void empty() {
        PackedImage x = new PackedImage();
        x.build(0);
        x.mount();
        Checks.same("a", x.find(0, 'a'), -1);
        Checks.same("z", x.find(0, 'z'), -1);
    }

    private static void outside() {
        PackedImage x = new PackedImage();
        for (char name = 'b'; name <= 'f'; name++) {
            Images.file(x, 0, name, "");
        }
        x.build(0);
        x.mount();
        Checks.same("a", x.find(0, 'a'), -1);
        Checks.same("g", x.find(0, 'g'), -1);
    }

    private static void noLetter() {
        PackedImage x = Images.mountedFile("", 0);
        for (int name : new int[] {0, 'F', 'a' - 1, 'z' + 1, 255, 65535}) {
            Checks.same("name " + name, x.find(0, (char) name), -1);
        }
    }

    private static void behindData() {
        PackedImage x = Images.directoryOf('b', 1, 0);
        Images.lay(x, 35, 'c', 1, 0);
        x.mount();
        Checks.same("behind one entry", x.find(0, 'c'), -1);
        PackedImage y = Images.inode(Images.LONG | Images.TAILED, 6, 0, 1, 'a', 1, 0, 'b', 1, 0, 'c', 1, 0);
        Checks.same("behind two entries in the rest", y.find(0, 'c'), -1);
        PackedImage z = Images.inode(0, 0, 0);
        Checks.same("block 0 of an empty directory", z.find(0, (char) 225), -1);
        PackedImage w = Images.directoryOf('a', 1, 0, 'b', 2, 0, 'c', 3, 0, 'd', 4, 0, 'e', 5, 0);
        Images.lay(w, 47, 'f', 6, 0);
        w.mount();
        Checks.same("in the next block", w.find(0, 'f'), -1);
    }

    private static void edgesOfBytes() {
        PackedImage x = Images.directoryOf(0, 5, 1, 128, 6, 1, 255, 7, 1);
        Checks.same("0", x.find(0, (char) 0), 5);
        Checks.same("128", x.find(0, (char) 128), 6);
        Checks.same("255", x.find(0, (char) 255), 7);
        Checks.same("127", x.find(0, (char) 127), -1);
    }

    private static void wide() {
        PackedImage x = Images.directoryOf(0, 5, 1, 'a', 6, 1, 255, 7, 1);
        Checks.same("256", x.find(0, (char) 256), -1);
        Checks.same("256 + a", x.find(0, (char) (256 + 'a')), -1);
        Checks.same("511", x.find(0, (char) 511), -1);
    }

    /** Entries that do not rise show which ones are looked at. */
    private static void two() {
        PackedImage x = Images.directoryOf('a', 1, 0, 'a', 2, 0);
        Checks.same("number 1", x.find(0, 'a'), 2);
    }

    private static void four() {
        PackedImage x = Images.directoryOf('m', 1, 0, 'b', 2, 0, 'm', 3, 0, 'b', 4, 0);
        Checks.same("number 2", x.find(0, 'm'), 3);
        Checks.same("then number 1", x.find(0, 'b'), 2);
    }

    private static void before() {
        PackedImage x = Images.directoryOf('z', 1, 0, 'c', 2, 0, 'a', 3, 0);
        Checks.same("the middle one", x.find(0, 'c'), 2);
        Checks.same("what is behind is not found", x.find(0, 'a'), -1);
        PackedImage y = Images.directoryOf('a', 1, 0, 'e', 2, 0, 'c', 3, 0, 'd', 4, 0, 'b', 5, 0);
        Checks.same("number 0 behind numbers 2 and 1", y.find(0, 'a'), 1);
        Checks.same("number 1 is not looked at", y.find(0, 'e'), -1);
        Checks.same("the one that was looked at is not looked at again",
                Images.directoryOf('a', 1, 0, 'c', 2, 0).find(0, 'b'), -1);
    }

    private static void behind() {
        PackedImage x = Images.directoryOf('z', 1, 0, 'c', 2, 0, 'a', 3, 0);
        Checks.same("what is before is not found", x.find(0, 'z'), -1);
        PackedImage y = Images.directoryOf('a', 1, 0, 'e', 2, 0, 'c', 3, 0, 'd', 4, 0, 'b', 5, 0);
        Checks.same("number 4 is looked at, then nothing behind it", y.find(0, 'd'), -1);
        PackedImage z = Images.directoryOf('a', 1, 0, 'b', 2, 0, 'c', 3, 0, 'd', 4, 0, 'e', 5, 0);
        Checks.same("number 4", z.find(0, 'e'), 5);
        Checks.same("number 3 behind it", z.find(0, 'd'), 4);
    }

    /** A directory of 255 bytes: names 1, 4, 7, .. 253. */
    private static void most() {
        PackedImage x = Images.inode(0, 255, 2);
        for (int i = 0; i < 85; i++) {
            Images.lay(x, 32 + 3 * i, 1 + 3 * i, i, 0);
        }
        Images.header(x, 2, 18);
        x.mount();
        for (int i = 0; i < 85; i++) {
            Checks.same("number " + i, x.find(0, (char) (1 + 3 * i)), i);
        }
        Checks.same("before all", x.find(0, (char) 0), -1);
        Checks.same("behind all", x.find(0, (char) 254), -1);
    }

    private static void notMounted() {
        PackedImage x = Images.withFile("");
        Checks.illegalState("a new object", () -> x.find(0, 'f'));
        x.build(0);
        Checks.illegalState("built", () -> x.find(0, 'f'));
        x.mount();
        Checks.same("mounted", x.find(0, 'f'), 1);
    }

    private static void noInode() {
        PackedImage x = Images.mountedFile("", 0);
        Checks.outOfBounds("-1", () -> x.find(-1, 'f'));
        Checks.outOfBounds("2", () -> x.find(2, 'f'));
        Checks.outOfBounds("126", () -> x.find(126, 'f'));
        Checks.outOfBounds("the largest int", () -> x.find(Integer.MAX_VALUE, 'f'));
        Checks.outOfBounds("the least int", () -> x.find(Integer.MIN_VALUE, 'f'));
        PackedImage y = Images.inode(Images.LONG);
        Checks.outOfBounds("the second slot of a long one", () -> y.find(1, 'f'));
    }

    private static void noDirectory(int kind) {
        PackedImage x = Images.inode(kind);
        Checks.illegalArgument("byte 0 is " + kind, () -> x.find(0, 'a'));
    }

    private static void bad() {
        Checks.illegalState("4 bytes", () -> Images.inode(0, 4, 2).find(0, 'a'));
        Checks.illegalState("layout 3", () -> Images.inode(Images.LAYOUT_3).find(0, 'a'));
        Checks.illegalState("PACKED", () -> Images.inode(Images.LONG | Images.PACKED, 3, 2, 1, 1, 3).find(0, 'a'));
        Checks.illegalState("a block that is not used", () -> Images.inode(0, 3, 8).find(0, 'a'));
    }

    private static void mountFirst() {
        PackedImage x = new PackedImage();
        Checks.illegalState("-1", () -> x.find(-1, 'a'));
        Checks.illegalState("999", () -> x.find(999, 'a'));
    }

    private static void kindFirst() {
        Checks.illegalArgument("a file in block 99", () -> Images.inode(Images.FILE, 4, 99).find(0, 'a'));
        Checks.illegalArgument("a link of layout 3", () -> Images.inode(Images.LINK | Images.LAYOUT_3).find(0, 'a'));
    }

    private static void spoilt() {
        PackedImage x = Images.directoryOf('a', 0, 2, 'b', 1, 77);
        Checks.same("another kind", x.find(0, 'a'), 0);
        Checks.same("no kind", x.find(0, 'b'), 1);
    }
}
