/** The cache, and promise 15. */
public final class CacheTest {
    public static void main(String[] args) {
        Checks.test("0 if nothing is mounted", CacheTest::notMounted);
        Checks.test("hits since it was mounted (false: misses): none", CacheTest::none);
        Checks.test("a MISS, then a HIT", CacheTest::missThenHit);
        Checks.test("keeps the two clusters that were used last: two", CacheTest::two);
        Checks.test("keeps the two clusters that were used last: not three", CacheTest::notThree);
        Checks.test("used last: a hit is a use", CacheTest::hitIsUse);
        Checks.test("used last: a hit of the newest one", CacheTest::hitOfNewest);
        Checks.test("by inode and number: one block of two inodes", CacheTest::byInode);
        Checks.test("by inode and number: the same number of two inodes", CacheTest::sameNumber);
        Checks.test("by inode and number: inode 0, number 0", CacheTest::zero);
        Checks.test("by inode and number: number 10", CacheTest::numberTen);
        Checks.test("also if the cluster is bad", CacheTest::badIsMiss);
        Checks.test("then it is not kept", CacheTest::badIsNotKept);
        Checks.test("then it is not kept: two others are", CacheTest::othersAreKept);
        Checks.test("reading a byte of a PACKED inode: no other layout", CacheTest::otherLayouts);
        Checks.test("reading a byte: not if there is none", CacheTest::noByte);
        Checks.test("reading a byte: no other call", CacheTest::otherCalls);
        Checks.test("more hits than 255", CacheTest::manyHits);
        Checks.test("cache itself changes nothing", CacheTest::askedTwice);
        Checks.end();
    }

    private static void counts(PackedImage x, int hits, int misses) {
        Checks.same("hits", x.cache(true), hits);
        Checks.same("misses", x.cache(false), misses);
    }

    private static PackedImage three() {
        return Images.mountedFile(Images.threeClusters(), 4);
    }

    private static void notMounted() {
        PackedImage x = Images.withFile(Images.threeClusters());
        counts(x, 0, 0);
        x.build(4);
        counts(x, 0, 0);
        x.mount();
        x.read(1, 0);
        x.read(1, 0);
        counts(x, 1, 1);
        x.poke(1000, 1);
        counts(x, 0, 0);
        x.mount();
        counts(x, 0, 0);
        x.read(1, 0);
        x.seal();
        counts(x, 0, 0);
    }

    private static void none() {
        counts(three(), 0, 0);
    }

    private static void missThenHit() {
        PackedImage x = three();
        x.read(1, 0);
        counts(x, 0, 1);
        x.read(1, 0);
        counts(x, 1, 1);
        x.read(1, 14);
        counts(x, 2, 1);
    }

    private static void two() {
        PackedImage x = three();
        x.read(1, 0);
        x.read(1, 15);
        counts(x, 0, 2);
        Checks.same("a byte of the first", x.read(1, 3), 23);
        Checks.same("a byte of the second", x.read(1, 29), 54);
        counts(x, 2, 2);
    }

    private static void notThree() {
        PackedImage x = three();
        x.read(1, 0);
        x.read(1, 15);
        x.read(1, 30);
        counts(x, 0, 3);
        Checks.same("the third is kept", x.read(1, 59), 'a');
        counts(x, 1, 3);
        Checks.same("the second is kept", x.read(1, 16), 41);
        counts(x, 2, 3);
        Checks.same("the first is not", x.read(1, 1), 21);
        counts(x, 2, 4);
        Checks.same("nor is the third any more", x.read(1, 31), 'a');
        counts(x, 2, 5);
    }

    private static void hitIsUse() {
        PackedImage x = three();
        x.read(1, 0);
        x.read(1, 15);
        x.read(1, 1);
        counts(x, 1, 2);
        x.read(1, 30);
        counts(x, 1, 3);
        Checks.same("the first was used last but one", x.read(1, 2), 22);
        counts(x, 2, 3);
        Checks.same("the second was not", x.read(1, 15), 40);
        counts(x, 2, 4);
    }

    private static void hitOfNewest() {
        PackedImage x = three();
        x.read(1, 0);
        x.read(1, 15);
        x.read(1, 16);
        x.read(1, 17);
        x.read(1, 0);
        counts(x, 3, 2);
    }

    private static void byInode() {
        PackedImage x = Images.withFile("b".repeat(40));
        Images.file(x, 0, 'g', "b".repeat(40));
        x.build(6);
        x.mount();
        Checks.same("they share a block", x.stat(1, 4), x.stat(3, 4));
        x.read(1, 0);
        x.read(3, 0);
        counts(x, 0, 2);
        x.read(1, 39);
        x.read(3, 39);
        counts(x, 2, 2);
    }

    private static void sameNumber() {
        PackedImage x = Images.withFile("b".repeat(40));
        Images.file(x, 0, 'g', "c".repeat(40));
        x.build(4);
        x.mount();
        Checks.same("the first one's", x.read(1, 0), 'b');
        Checks.same("the second one's", x.read(3, 0), 'c');
        Checks.same("the first one's again", x.read(1, 0), 'b');
        counts(x, 1, 2);
    }

    private static void zero() {
        PackedImage x = Images.cluster(3, 0x30, 'a', 'b', 'c');
        Checks.same("a byte", x.read(0, 0), 'a');
        counts(x, 0, 1);
        Checks.same("another one", x.read(0, 2), 'c');
        counts(x, 1, 1);
    }

    private static void numberTen() {
        PackedImage x = new PackedImage();
        Images.lay(x, 16, Images.LONG | Images.FILE | Images.PACKED, 11, 2, 1, 11, 1, 2, 3, 4, 5, 6, 7, 8, 9, 10, 11);
        for (int i = 0; i < 11; i++) {
            Images.lay(x, (2 + i) * 16, 0x10, 100 + i);
        }
        Images.header(x, 2, 13);
        x.mount();
        x.read(0, 10);
        x.read(0, 0);
        Checks.same("number 10", x.read(0, 10), 110);
        counts(x, 1, 2);
        x.read(0, 1);
        Checks.same("number 10 again", x.read(0, 10), 110);
        counts(x, 2, 3);
    }

    /** The second of three clusters is bad. */
    private static PackedImage spoilt() {
        PackedImage x = three();
        x.poke(5 * 16, 0);
        x.mount();
        return x;
    }

    private static void badIsMiss() {
        PackedImage x = spoilt();
        Checks.illegalState("a byte", () -> x.read(1, 15));
        counts(x, 0, 1);
    }

    private static void badIsNotKept() {
        PackedImage x = spoilt();
        Checks.illegalState("a byte", () -> x.read(1, 15));
        Checks.illegalState("the same one", () -> x.read(1, 15));
        Checks.illegalState("another one", () -> x.read(1, 29));
        counts(x, 0, 3);
    }

    private static void othersAreKept() {
        PackedImage x = spoilt();
        x.read(1, 0);
        x.read(1, 30);
        Checks.illegalState("a byte", () -> x.read(1, 15));
        Checks.illegalState("another one", () -> x.read(1, 16));
        counts(x, 0, 4);
        Checks.same("the first", x.read(1, 0), 20);
        Checks.same("the third", x.read(1, 30), 'a');
        counts(x, 2, 4);
    }

    private static void otherLayouts() {
        PackedImage x = Images.withFile(Images.unlike(20, 1));
        Images.link(x, 0, 'l', "f");
        x.build(0);
        x.mount();
        x.read(0, 0);
        x.read(1, 0);
        x.read(2, 0);
        counts(x, 0, 0);
        x.build(1);
        x.mount();
        Checks.same("a byte of a tail", x.read(2, 19), 20);
        counts(x, 0, 0);
    }

    private static void noByte() {
        PackedImage x = three();
        Checks.outOfBounds("byte 60", () -> x.read(1, 60));
        Checks.outOfBounds("byte -1", () -> x.read(1, -1));
        Checks.outOfBounds("no inode", () -> x.read(2, 0));
        counts(x, 0, 0);
        PackedImage y = Images.inode(Images.LONG | Images.FILE | Images.PACKED, 6, 2, 1, 1, 5);
        Checks.illegalState("a bad inode", () -> y.read(0, 0));
        counts(y, 0, 0);
    }

    private static void otherCalls() {
        PackedImage x = Images.withFile(Images.threeClusters());
        Images.file(x, 0, 'g', "b".repeat(40));
        x.build(4);
        x.mount();
        x.read(1, 0);
        x.read(1, 15);
        x.check();
        x.stat(1, 5);
        x.find(0, 'f');
        x.resolve('f');
        x.peek(64);
        x.create(1, 0, 'n');
        x.append(1 + 2, 'x');
        x.link(1, 0, 'm');
        x.unlink(0, 'm');
        Checks.illegalArgument("build(8)", () -> x.build(8));
        counts(x, 0, 2);
        Checks.same("the second", x.read(1, 16), 41);
        Checks.same("the first", x.read(1, 1), 21);
        counts(x, 2, 2);
    }

    private static void manyHits() {
        PackedImage x = Images.mountedFile("a".repeat(20), 4);
        for (int i = 0; i < 300; i++) {
            x.read(1, i % 20);
        }
        counts(x, 299, 1);
    }

    private static void askedTwice() {
        PackedImage x = three();
        x.read(1, 0);
        x.read(1, 0);
        counts(x, 1, 1);
        counts(x, 1, 1);
    }
}
