/** Promise 15. */
public final class CacheTest {
    public static void main(String[] args) {
        lastTwo();
        byInode();
        badClusters();
        othersDoNotUseIt();
        Checks.end();
    }

    private static void counts(String what, PackedImage x, int hits, int misses) {
        Checks.same(what + ": hits", x.cache(true), hits);
        Checks.same(what + ": misses", x.cache(false), misses);
    }

    /** Three clusters: 0 .. 14, 15 .. 29, 30 .. 59. */
    private static String three() {
        return Images.unlike(15, 20) + Images.unlike(15, 40) + "a".repeat(30);
    }

    private static void lastTwo() {
        PackedImage x = new PackedImage();
        Images.file(x, 0, 'f', three());
        x.build(4);
        counts("not mounted", x, 0, 0);
        x.mount();
        counts("mounted", x, 0, 0);
        x.read(1, 0);
        counts("the first one", x, 0, 1);
        x.read(1, 14);
        counts("the same cluster", x, 1, 1);
        x.read(1, 15);
        counts("the second one", x, 1, 2);
        x.read(1, 3);
        counts("the first one is kept", x, 2, 2);
        Checks.same("a byte of the third", x.read(1, 30), 'a');
        counts("the third one", x, 2, 3);
        Checks.same("a byte of the first", x.read(1, 1), 21);
        counts("the first one was used last but one", x, 3, 3);
        Checks.same("a byte of the second", x.read(1, 29), 54);
        counts("the second one was not", x, 3, 4);
        x.read(1, 59);
        counts("nor is the third one now", x, 3, 5);
        x.poke(1000, 1);
        counts("not mounted any more", x, 0, 0);
        x.mount();
        counts("mounted anew", x, 0, 0);
    }

    private static void byInode() {
        PackedImage x = new PackedImage();
        Images.file(x, 0, 'f', "b".repeat(40));
        Images.file(x, 0, 'g', "b".repeat(40));
        x.build(6);
        x.mount();
        Checks.same("they share a block", x.stat(1, 4), x.stat(3, 4));
        x.read(1, 0);
        x.read(3, 0);
        counts("another inode's cluster is another one", x, 0, 2);
        x.read(1, 39);
        x.read(3, 39);
        counts("both are kept", x, 2, 2);
    }

    private static void badClusters() {
        PackedImage x = new PackedImage();
        Images.file(x, 0, 'f', three());
        x.build(4);
        x.poke(5 * 16, 0);
        x.mount();
        x.read(1, 0);
        x.read(1, 30);
        Checks.illegalState("a bad cluster", () -> x.read(1, 15));
        counts("it is a miss", x, 0, 3);
        Checks.illegalState("a bad cluster again", () -> x.read(1, 15));
        counts("it is not kept", x, 0, 4);
        Checks.same("the first", x.read(1, 0), 20);
        Checks.same("the third", x.read(1, 30), 'a');
        counts("both others are kept", x, 2, 4);
        Checks.same("stat", x.stat(1, 5), 0);
        Checks.outOfBounds("no byte", () -> x.read(1, 60));
        counts("no byte is no use", x, 2, 4);
    }

    private static void othersDoNotUseIt() {
        PackedImage x = new PackedImage();
        Images.file(x, 0, 'f', three());
        Images.file(x, 0, 'g', "b".repeat(40));
        Images.file(x, 0, 'p', "plain");
        x.build(4);
        x.mount();
        x.read(1, 0);
        x.read(1, 15);
        x.check();
        x.read(0, 0);
        x.read(5, 0);
        x.find(0, 'f');
        x.resolve('f');
        counts("no use", x, 0, 2);
        Checks.same("the second", x.read(1, 16), 41);
        Checks.same("the first", x.read(1, 1), 21);
        counts("they are kept", x, 2, 2);
    }
}
