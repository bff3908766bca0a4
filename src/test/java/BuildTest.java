/** Promise 6, but for what packing does. */
public final class BuildTest {
    public static void main(String[] args) {
        header();
        plain();
        tails();
        directories();
        counts();
        sharing();
        sharingAcrossInodes();
        full();
        fullKeepsAll();
        wrongFlags();
        unmounts();
        Checks.end();
    }

    private static void header() {
        PackedImage x = new PackedImage();
        Images.lay(x, 5, 1, 2, 3);
        x.poke(1023, 9);
        Images.file(x, 0, 'b', "hello");
        Images.directory(x, 0, 'a');
        Images.file(x, 2, 'x', "0123456789abcdefXY");
        Images.link(x, 0, 'z', "ax");
        Checks.same("used blocks", x.build(0), 10);
        Checks.sameText("block 0", Images.block(x, 0), "225 245 0 5 10 0 0 0 0 0 0 0 0 0 186 168");
        Checks.same("the last byte", x.peek(1023), 0);
    }

    private static void plain() {
        PackedImage x = new PackedImage();
        Images.file(x, 0, 'a', "");
        Images.file(x, 0, 'b', Images.unlike(16, 1));
        Images.file(x, 0, 'c', Images.unlike(17, 100));
        Checks.same("used blocks", x.build(0), 7);
        Checks.sameText("the root", Images.slot(x, 0), "0 9 3 1 0 0 0 0");
        Checks.sameText("an empty file", Images.slot(x, 1), "2 0 0 1 0 0 0 0");
        Checks.sameText("one block", Images.slot(x, 2), "2 16 4 1 0 0 0 0");
        Checks.sameText("two blocks", Images.slot(x, 3), "2 17 5 1 0 0 0 0");
        Checks.sameText("the root's data", Images.block(x, 3), "97 1 1 98 2 1 99 3 1 0 0 0 0 0 0 0");
        Checks.sameText("a whole block", Images.block(x, 4), "1 2 3 4 5 6 7 8 9 10 11 12 13 14 15 16");
        Checks.sameText("a block filled up", Images.block(x, 6), "116 0 0 0 0 0 0 0 0 0 0 0 0 0 0 0");
    }

    private static void tails() {
        tail(1, "10 1 0 1 50 0 0 0", 1);
        tail(4, "10 4 0 1 50 51 52 53", 1);
        tail(5, "11 5 0 1 50 51 52 53 54 0 0 0 0 0 0 0", 2);
        tail(12, "11 12 0 1 50 51 52 53 54 55 56 57 58 59 60 61", 2);
        tail(13, "2 13 2 1 0 0 0 0", 1);
        tail(16, "2 16 2 1 0 0 0 0", 1);
        tail(17, "10 17 2 1 66 0 0 0", 1);
        tail(21, "11 21 3 1 66 67 68 69 70 0 0 0 0 0 0 0", 2);
        tail(45, "2 45 2 1 0 0 0 0", 1);
        tail(0, "2 0 0 1 0 0 0 0", 1);
        PackedImage x = new PackedImage();
        Images.link(x, 0, 'a', "abcd");
        Checks.same("a link and a root with tails alone", x.build(1), 2);
        Checks.sameText("the root", Images.slot(x, 0), "8 3 0 1 97 1 2 0");
        Checks.sameText("the link", Images.slot(x, 1), "12 4 0 1 97 98 99 100");
    }

    private static void tail(int size, String inode, int slots) {
        PackedImage x = new PackedImage();
        Images.file(x, 0, 'f', Images.unlike(size, 50));
        x.build(1);
        Checks.same("slots with a file of " + size, x.peek(3), 1 + slots);
        Checks.sameText("a file of " + size, slots == 1 ? Images.slot(x, 1) : Images.longSlot(x, 1), inode);
        x.mount();
        Checks.sameText("its data", Images.data(x, 1), Images.unlike(size, 50));
    }

    private static void directories() {
        PackedImage x = new PackedImage();
        int directory = Images.directory(x, 0, 'm');
        Images.file(x, directory, 'z', "");
        Images.link(x, directory, 'a', "");
        Images.file(x, directory, 'k', "");
        Images.directory(x, 0, 'b');
        x.build(1);
        Checks.sameText("the root, by name", Images.longSlot(x, 0), "9 6 0 1 98 7 0 109 2 0 0 0 0 0 0 0");
        Checks.sameText("a directory, by name", Images.longSlot(x, 2), "9 9 0 1 97 5 2 107 6 1 122 4 1 0 0 0");
        x.mount();
        Checks.same("check", x.check(), -1);
    }

    private static void counts() {
        PackedImage x = new PackedImage();
        int file = Images.file(x, 0, 'z', "counted");
        for (int i = 0; i < 10; i++) {
            int directory = Images.directory(x, 0, (char) ('a' + i));
            for (int letter = 0; letter < 26 && i * 26 + letter < 256; letter++) {
                x.link(file, directory, (char) ('a' + letter));
            }
        }
        Checks.same("used blocks", x.build(0), 1 + 6 + 3 + 1 + 9 * 5 + 5);
        x.mount();
        Checks.same("a count of 257", x.stat(1, 3), 1);
        Checks.same("the size of a full directory", x.stat(2, 2), 78);
        Checks.same("check", x.check(), -1);
        x.unlink(0, 'z');
        x.build(2);
        x.mount();
        Checks.same("a count of 256", x.stat(1, 3), 0);
        Checks.same("full directories are shared", x.stat(4, 4), x.stat(3, 4));
    }

    private static void sharing() {
        PackedImage x = new PackedImage();
        String one = Images.unlike(16, 10);
        String two = Images.unlike(16, 40);
        Images.file(x, 0, 'a', one + two);
        Images.file(x, 0, 'b', two);
        Images.file(x, 0, 'c', two + one);
        Images.file(x, 0, 'd', one + two);
        Images.file(x, 0, 'e', one);
        Checks.same("used blocks", x.build(2), 1 + 3 + 1 + 2 + 2);
        x.mount();
        Checks.same("a", x.stat(1, 4), 5);
        Checks.same("b lies within a", x.stat(2, 4), 6);
        Checks.same("c in another order does not", x.stat(3, 4), 7);
        Checks.same("d is a", x.stat(4, 4), 5);
        Checks.same("e is the first place of two", x.stat(5, 4), 5);
        Checks.sameText("c's data", Images.data(x, 3), two + one);
        Checks.same("without sharing", x.build(0), 1 + 3 + 1 + 2 + 1 + 2 + 2 + 1);
        x.mount();
        Checks.same("e without sharing", x.stat(5, 4), 12);
    }

    private static void sharingAcrossInodes() {
        PackedImage x = new PackedImage();
        String one = Images.unlike(16, 10);
        String two = Images.unlike(16, 40);
        Images.file(x, 0, 'a', one);
        Images.file(x, 0, 'b', two);
        Images.file(x, 0, 'c', one + two);
        Images.file(x, 0, 'd', two + one);
        Checks.same("used blocks", x.build(2), 1 + 3 + 1 + 2 + 2);
        x.mount();
        Checks.same("c lies over a and b", x.stat(3, 4), 5);
        Checks.same("d does not go beyond what is there", x.stat(4, 4), 7);
        PackedImage y = new PackedImage();
        Images.link(y, 0, 'a', "xy");
        Images.file(y, 0, 'b', "xy");
        Images.directory(y, 0, 'c');
        Checks.same("a file shares a link's block", y.build(2), 5);
        y.mount();
        Checks.same("its first block", y.stat(2, 4), y.stat(1, 4));
        Checks.same("what has no data has no first block", y.stat(3, 4), 0);
        PackedImage z = new PackedImage();
        Images.file(z, 0, 'a', one + "xyz");
        Images.file(z, 0, 'b', one + "zyx");
        Checks.same("TAILS alone do not share", z.build(1), 1 + 2 + 2);
        Checks.same("nor does PACKING", z.build(4), 1 + 2 + 1 + 4);
        Checks.same("whole blocks of TAILED files are shared", z.build(3), 1 + 2 + 1);
        z.mount();
        Checks.sameText("b's data", Images.data(z, z.find(0, 'b')), one + "zyx");
    }

    /** 13 files of 60 bytes need 1 + 7 + 3 + 52 blocks. */
    private static PackedImage large() {
        PackedImage x = new PackedImage();
        for (int i = 0; i < 13; i++) {
            Images.file(x, 0, (char) ('a' + i), Images.unlike(60, 1 + 15 * i));
        }
        return x;
    }

    private static void full() {
        PackedImage x = large();
        Checks.same("13 files", x.build(0), 63);
        Images.file(x, 0, 'y', "y");
        Checks.unsupported("1 + 8 + 3 + 52 + 1 blocks", () -> x.build(0));
        Checks.same("with tails 1 + 15 + 2 + 39", x.build(1), 57);
        PackedImage y = large();
        y.unlink(0, 'a');
        Images.file(y, 0, 'y', Images.unlike(59, 9));
        Checks.same("just as many as there were", y.build(0), 63);
        Images.link(y, 0, 'z', "");
        y.append(14 + 1, 'q');
        Checks.unsupported("one slot block and one block more", () -> y.build(0));
        PackedImage z = large();
        Images.directory(z, 0, 'x');
        Checks.same("a 64th block", z.build(0), 64);
        Images.directory(z, 14, 'x');
        Checks.unsupported("a 65th block", () -> z.build(0));
    }

    private static void fullKeepsAll() {
        PackedImage x = large();
        x.build(0);
        x.mount();
        Images.file(x, 0, 'x', Images.unlike(60, 190));
        int first = x.peek(16);
        int last = x.peek(1007);
        Checks.unsupported("too many blocks", () -> x.build(2));
        Checks.same("it is mounted still", x.stat(0, 5), 0);
        Checks.same("slots", x.peek(3), 14);
        Checks.same("the first slot", x.peek(16), first);
        Checks.same("the last byte used", x.peek(1007), last);
        Checks.same("the image is whole", x.check(), -1);
        Checks.illegalArgument("wrong flags", () -> x.build(8));
        Checks.same("it is mounted even then", x.check(), -1);
    }

    private static void wrongFlags() {
        PackedImage x = new PackedImage();
        Checks.illegalArgument("-1", () -> x.build(-1));
        Checks.illegalArgument("8", () -> x.build(8));
        Checks.illegalArgument("the least int", () -> x.build(Integer.MIN_VALUE));
        Checks.same("nothing was built", x.peek(0), 0);
        for (int flags = 0; flags < 8; flags++) {
            Checks.same("an empty root", x.build(flags), 2);
            Checks.same("its flags", x.peek(2), flags);
            Checks.same("its inodes", x.mount(), 1);
        }
    }

    private static void unmounts() {
        PackedImage x = new PackedImage();
        x.build(0);
        x.mount();
        x.build(0);
        Checks.illegalState("stat after build", () -> x.stat(0, 0));
    }
}
