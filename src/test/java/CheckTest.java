/** Promise 16. */
public final class CheckTest {
    public static void main(String[] args) {
        PackedImage none = new PackedImage();
        Checks.illegalState("nothing is mounted", () -> none.check());
        good();
        entries();
        inodesInOrder();
        clusters();
        Checks.end();
    }

    /** Inodes 0 the root, 1 a file, 2 a link, 3 a directory with 4, a file; the root's data in block 4. */
    private static PackedImage image() {
        PackedImage x = new PackedImage();
        Images.file(x, 0, 'b', "file");
        Images.link(x, 0, 'd', "b");
        Images.directory(x, 0, 'f');
        Images.file(x, 3, 'x', "x");
        x.build(0);
        return x;
    }

    private static void spoilt(String what, int due, int at, int... bytes) {
        PackedImage x = image();
        Images.lay(x, at, bytes);
        x.mount();
        Checks.same(what, x.check(), due);
    }

    private static void good() {
        spoilt("nothing is wrong", -1, 1000, 0);
        spoilt("names need not be letters", -1, 64, 0);
        spoilt("nor below 128", -1, 70, 255);
        spoilt("counts are not looked at", -1, 19, 9);
    }

    private static void entries() {
        spoilt("names alike", 0, 67, 'b');
        spoilt("names that fall", 0, 67, 'a');
        spoilt("the last name falls", 0, 70, 'c');
        spoilt("an inode that is none", 0, 65, 5);
        spoilt("inode 255", 0, 65, 255);
        spoilt("another kind", 0, 66, 2);
        spoilt("a kind with more bits", 0, 66, 5);
        spoilt("another inode of the same kind", -1, 65, 4);
        spoilt("the last entry's kind", 0, 72, 1);
        PackedImage x = image();
        x.poke(x.peek(16 + 3 * 8 + 2) * 16 + 1, 9);
        x.mount();
        Checks.same("an entry of a directory further on", x.check(), 3);
        PackedImage y = new PackedImage();
        Images.file(y, 0, 'a', "tail tail");
        Images.file(y, 0, 'b', "tail tail");
        y.build(1);
        y.mount();
        Checks.same("TAILED", y.check(), -1);
        y.poke(16 + 4 + 1, 1);
        y.mount();
        Checks.same("a second slot is no inode", y.check(), 0);
    }

    private static void inodesInOrder() {
        spoilt("a bad inode", 1, 16 + 8 + 2, 99);
        spoilt("the last one", 4, 16 + 4 * 8 + 2, 99);
        spoilt("a bad inode's kind is another one in its entry", 0, 16 + 8, 6);
        PackedImage x = image();
        x.poke(16 + 2 * 8 + 2, 99);
        x.poke(16 + 4 * 8 + 2, 99);
        x.mount();
        Checks.same("the first of two", x.check(), 2);
        PackedImage y = image();
        y.poke(16 + 8, 6);
        y.poke(66, 3);
        y.mount();
        Checks.same("an entry with kind 3 agrees", y.check(), 1);
    }

    private static void clusters() {
        PackedImage x = new PackedImage();
        Images.file(x, 0, 'a', "a".repeat(40));
        Images.file(x, 0, 'b', Images.unlike(15, 20) + Images.unlike(15, 40) + "a".repeat(30));
        x.build(4);
        x.mount();
        Checks.same("good clusters", x.check(), -1);
        int first = x.stat(3, 4);
        x.poke((first + 2) * 16, 0);
        x.mount();
        Checks.same("a bad third cluster", x.check(), 3);
        Checks.same("misses", x.cache(false), 0);
        x.poke(x.peek(16 + 8 + 2) * 16, 0);
        x.mount();
        Checks.same("a bad one before", x.check(), 1);
    }
}
