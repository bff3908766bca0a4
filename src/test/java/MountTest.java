/** Promise 10. */
public final class MountTest {
    public static void main(String[] args) {
        headers();
        inodes();
        emptiesCache();
        failedMount();
        Checks.end();
    }

    private static PackedImage empty() {
        PackedImage x = new PackedImage();
        x.build(0);
        return x;
    }

    private static void refused(String what, int at, int b) {
        PackedImage x = empty();
        x.poke(at, b);
        x.seal();
        Checks.illegalState(what, () -> x.mount());
        Checks.illegalState(what + ", then stat", () -> x.stat(0, 0));
    }

    private static void taken(String what, int at, int b, int inodes) {
        PackedImage x = empty();
        x.poke(at, b);
        x.seal();
        Checks.same(what, x.mount(), inodes);
    }

    private static void headers() {
        refused("byte 0", 0, 224);
        refused("byte 1", 1, 244);
        refused("flags 8", 2, 8);
        refused("flags 128", 2, 128);
        refused("no slots", 3, 0);
        refused("slots beyond the used blocks", 3, 3);
        refused("no used blocks", 4, 0);
        refused("one used block", 4, 1);
        refused("65 used blocks", 4, 65);
        refused("255 slots", 3, 255);
        taken("flags 7", 2, 7, 1);
        taken("two slots in one block", 3, 2, 2);
        taken("64 used blocks", 4, 64, 1);
        taken("a byte that says nothing", 9, 200, 1);
        PackedImage x = empty();
        x.poke(14, x.peek(14) ^ 1);
        Checks.illegalState("the higher byte of the check", () -> x.mount());
        PackedImage y = empty();
        y.poke(15, y.peek(15) ^ 128);
        Checks.illegalState("the lower byte of the check", () -> y.mount());
        PackedImage z = empty();
        z.poke(13, 1);
        Checks.illegalState("the last byte that is checked", () -> z.mount());
    }

    private static void inodes() {
        PackedImage x = new PackedImage();
        Images.header(x, 126, 64);
        Checks.same("126 short inodes", x.mount(), 126);
        Checks.same("the last one", x.stat(125, 2), 0);
        Checks.outOfBounds("none behind it", () -> x.stat(126, 2));
        PackedImage y = new PackedImage();
        Images.header(y, 5, 4);
        y.poke(16, 1);
        y.poke(16 + 16, 1);
        y.poke(16 + 32, 1);
        Checks.same("a long one that does not lie in the slots ends them", y.mount(), 2);
        Checks.outOfBounds("second half", () -> y.stat(1, 0));
        Checks.outOfBounds("the one that was not whole", () -> y.stat(4, 0));
        Checks.same("the second one", y.stat(2, 0), 0);
        PackedImage z = new PackedImage();
        Images.header(z, 1, 2);
        z.poke(16, 1);
        Checks.same("no inode at all", z.mount(), 0);
        Checks.outOfBounds("inode 0", () -> z.stat(0, 0));
        Checks.same("check", z.check(), -1);
        Checks.illegalState("resolve", () -> z.resolve(0));
    }

    private static void emptiesCache() {
        PackedImage x = new PackedImage();
        Images.file(x, 0, 'f', "a".repeat(40));
        x.build(4);
        x.mount();
        x.read(1, 0);
        x.read(1, 1);
        x.mount();
        Checks.same("hits", x.cache(true), 0);
        Checks.same("misses", x.cache(false), 0);
        x.read(1, 0);
        Checks.same("nothing was kept", x.cache(false), 1);
    }

    private static void failedMount() {
        PackedImage x = empty();
        x.mount();
        x.poke(4, 99);
        Checks.illegalState("mount", () -> x.mount());
        Checks.illegalState("nothing is mounted", () -> x.resolve(0));
        x.poke(4, 2);
        Checks.same("mended", x.mount(), 1);
    }
}
