/** The examples in README.md, and the answers that it tells of them. */
public final class ReadmeTest {
    public static void main(String[] args) {
        Checks.test("the first example: fill, build, mount, read", ReadmeTest::read);
        Checks.test("the second example: spoil the device", ReadmeTest::spoil);
        Checks.end();
    }

    private static PackedImage built() {
        PackedImage image = new PackedImage();
        Checks.same("the directory", image.create(0, 0, 'd'), 1);
        Checks.same("the file", image.create(1, 1, 'f'), 2);
        Checks.same("the link", image.create(2, 0, 'l'), 3);
        image.link(2, 0, 'g');
        for (int i = 0; i < 40; i++) {
            image.append(2, 42);
        }
        image.append(3, 'd');
        Checks.same("used blocks", image.build(7), 5);
        Checks.same("inodes", image.mount(), 4);
        return image;
    }

    private static void read() {
        PackedImage image = built();
        Checks.same("the file's inode", image.resolve('l' | 'f' << 8), 3);
        Checks.same("its size", image.stat(3, 2), 40);
        Checks.same("its last byte", image.read(3, 39), 42);
        Checks.same("misses", image.cache(false), 1);
        Checks.same("check", image.check(), -1);
    }

    private static void spoil() {
        PackedImage image = built();
        image.poke(16 + 8 * 3 + 1, 41);
        Checks.same("inodes, with another size", image.mount(), 4);
        Checks.same("whether it is bad", image.stat(3, 5), 1);
        Checks.same("check", image.check(), 3);
        image.poke(2, 0);
        Checks.illegalState("mount, with other flags", () -> image.mount());
        image.seal();
        Checks.same("inodes, sealed", image.mount(), 4);
    }
}
