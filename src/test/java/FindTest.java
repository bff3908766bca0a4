/** Promise 13. */
public final class FindTest {
    public static void main(String[] args) {
        all();
        wrong();
        halves();
        spoiltEntries();
        Checks.end();
    }

    private static void all() {
        for (int flags = 0; flags < 8; flags++) {
            PackedImage x = new PackedImage();
            int file = Images.file(x, 0, 'a', "");
            for (int letter = 2; letter < 26; letter += 2) {
                x.link(file, 0, (char) ('a' + letter));
            }
            x.build(flags);
            x.mount();
            int inode = x.find(0, 'a');
            Checks.same("the file's kind", x.stat(inode, 0), 1);
            for (int letter = 0; letter < 26; letter++) {
                Checks.same("letter " + letter, x.find(0, (char) ('a' + letter)), letter % 2 == 0 ? inode : -1);
            }
            Checks.same("no letter", x.find(0, 'A'), -1);
            Checks.same("character 0", x.find(0, (char) 0), -1);
            Checks.same("a wide character", x.find(0, (char) (256 + 'a')), -1);
            Checks.same("the last character", x.find(0, (char) 65535), -1);
        }
        PackedImage x = new PackedImage();
        x.build(0);
        x.mount();
        Checks.same("in an empty directory", x.find(0, 'a'), -1);
    }

    private static void wrong() {
        PackedImage x = new PackedImage();
        Checks.illegalState("nothing mounted comes first", () -> x.find(-1, 'a'));
        Images.file(x, 0, 'f', "abc");
        Images.link(x, 0, 'l', "f");
        x.build(0);
        x.mount();
        Checks.outOfBounds("inode -1", () -> x.find(-1, 'a'));
        Checks.outOfBounds("inode 3", () -> x.find(3, 'a'));
        Checks.illegalArgument("a file", () -> x.find(1, 'a'));
        Checks.illegalArgument("a link", () -> x.find(2, 'a'));
        PackedImage y = StatTest.inode(0, 4, 2);
        Checks.illegalState("a bad directory", () -> y.find(0, 'a'));
        PackedImage z = StatTest.inode(1 << 1, 4, 99);
        Checks.illegalArgument("a bad file is no directory first", () -> z.find(0, 'a'));
        PackedImage w = StatTest.inode(3 << 1);
        Checks.illegalArgument("kind 3 is no directory first", () -> w.find(0, 'a'));
    }

    private static PackedImage directory(int... data) {
        PackedImage x = StatTest.inode(0, data.length, 2);
        Images.lay(x, 32, data);
        x.mount();
        return x;
    }

    /** Entries that do not rise show which ones are looked at. */
    private static void halves() {
        PackedImage x = directory('m', 1, 0, 'b', 2, 0, 'm', 3, 0, 'b', 4, 0);
        Checks.same("number 2 of four is looked at first", x.find(0, 'm'), 3);
        Checks.same("number 1 of 0 .. 1 is next", x.find(0, 'b'), 2);
        PackedImage y = directory('z', 1, 0, 'c', 2, 0, 'a', 3, 0);
        Checks.same("those before are looked at", y.find(0, 'a'), -1);
        Checks.same("those behind are looked at", y.find(0, 'z'), -1);
        Checks.same("the middle one", y.find(0, 'c'), 2);
        PackedImage z = directory('a', 1, 0, 'a', 2, 0);
        Checks.same("number 1 of two", z.find(0, 'a'), 2);
        PackedImage w = directory('a', 1, 0, 'e', 2, 0, 'c', 3, 0, 'd', 4, 0, 'b', 5, 0);
        Checks.same("behind number 2 is number 4", w.find(0, 'e'), -1);
        Checks.same("and then number 3", w.find(0, 'd'), -1);
        Checks.same("before number 2 is number 1", w.find(0, 'a'), 1);
    }

    private static void spoiltEntries() {
        PackedImage x = directory(0, 200, 9, 255, 7, 1);
        Checks.same("name 0, an inode that is none", x.find(0, (char) 0), 200);
        Checks.same("name 255", x.find(0, (char) 255), 7);
        Checks.same("name 511", x.find(0, (char) 511), -1);
    }
}
