/** Promise 14. */
public final class ResolveTest {
    public static void main(String[] args) {
        paths();
        links();
        countOfLinks();
        notFound();
        spoilt();
        rootIsNoDirectory();
        Checks.end();
    }

    static int path(String letters) {
        int path = 0;
        for (int i = letters.length() - 1; i >= 0; i--) {
            path = path << 8 | letters.charAt(i);
        }
        return path;
    }

    private static void paths() {
        PackedImage x = new PackedImage();
        Checks.illegalState("nothing is mounted", () -> x.resolve(0));
        int a = Images.directory(x, 0, 'a');
        int b = Images.directory(x, a, 'b');
        int c = Images.directory(x, b, 'c');
        Images.file(x, c, 'd', "deep");
        for (int flags = 0; flags < 8; flags++) {
            x.build(flags);
            x.mount();
            Checks.same("the root", x.resolve(0), 0);
            Checks.same("a", x.resolve(path("a")), 1);
            Checks.same("abc", x.resolve(path("abc")), 3);
            Checks.same("abcd", x.resolve(path("abcd")), 4);
            Checks.same("what is behind a 0 does not count", x.resolve(path("a\0c")), 1);
            Checks.same("b is not in the root", x.resolve(path("b")), -1);
            Checks.same("a letter of more than 127", x.resolve(path("abc\u00ff")), -1);
        }
    }

    private static void links() {
        PackedImage x = new PackedImage();
        int a = Images.directory(x, 0, 'a');
        Images.file(x, a, 'f', "");
        Images.link(x, a, 'l', "af");
        Images.link(x, 0, 'm', "a");
        Images.link(x, 0, 'n', "");
        Images.link(x, 0, 'o', "mmmm");
        Images.link(x, a, 'p', "ml");
        Images.link(x, 0, 'q', "nnmf");
        x.build(1);
        x.mount();
        int file = x.find(x.find(0, 'a'), 'f');
        Checks.same("a link's path is from the root", x.resolve(path("al")), file);
        Checks.same("a link on the way", x.resolve(path("mf")), file);
        Checks.same("two links", x.resolve(path("ml")), file);
        Checks.same("links in a link's path", x.resolve(path("mp")), file);
        Checks.same("a path of four letters", x.resolve(path("q")), file);
        Checks.same("an empty path is the root", x.resolve(path("n")), 0);
        Checks.same("and goes on from there", x.resolve(path("nnnm")), x.find(0, 'a'));
        Checks.same("a name that is not found in a link's path", x.resolve(path("o")), -1);
    }

    private static void countOfLinks() {
        PackedImage x = new PackedImage();
        Images.link(x, 0, 'a', "b");
        Images.link(x, 0, 'b', "c");
        Images.link(x, 0, 'c', "d");
        Images.link(x, 0, 'd', "e");
        Images.directory(x, 0, 'e');
        Images.link(x, 0, 'l', "l");
        Images.link(x, 0, 'z', "a");
        Images.link(x, 5, 'q', "e");
        x.build(0);
        x.mount();
        Checks.same("four links", x.resolve(path("a")), 5);
        Checks.same("five links", x.resolve(path("z")), -1);
        Checks.same("a ring", x.resolve(path("l")), -1);
        Checks.same("a fifth link behind four", x.resolve(path("aq")), -1);
        Checks.same("three and one", x.resolve(path("bq")), 5);
        Checks.same("one each", x.resolve(path("eqq")), 5);
        Checks.same("links are counted anew", x.resolve(path("a")), 5);
    }

    private static void notFound() {
        PackedImage x = new PackedImage();
        Images.file(x, 0, 'f', "");
        Images.link(x, 0, 'g', "f");
        x.build(0);
        x.mount();
        Checks.same("on from a file", x.resolve(path("fa")), -1);
        Checks.same("on from a file by a link", x.resolve(path("ga")), -1);
        Checks.same("not found", x.resolve(path("q")), -1);
        Checks.same("-1", x.resolve(-1), -1);
        Checks.same("the least int: the lowest letter is 0", x.resolve(Integer.MIN_VALUE), 0);
    }

    private static void spoilt() {
        PackedImage x = new PackedImage();
        Images.file(x, 0, 'f', "x");
        Images.link(x, 0, 'l', "f");
        Images.directory(x, 0, 'd');
        x.build(0);
        Images.lay(x, 16 + 16 + 1, 5);
        x.mount();
        Checks.same("a link's path of 5 bytes", x.resolve(path("l")), -1);
        Images.lay(x, 16 + 16 + 1, 2);
        x.mount();
        Checks.same("a link's path goes over a 0", x.resolve(path("l")), -1);
        Images.lay(x, 16 + 16 + 1, 1);
        Images.lay(x, 16 + 8 + 2, 99);
        x.mount();
        Checks.illegalState("a bad file is found", () -> x.resolve(path("f")));
        Checks.illegalState("a bad file is found by a link", () -> x.resolve(path("l")));
        Checks.illegalState("a bad file is found before it is no directory", () -> x.resolve(path("fa")));
        Checks.same("others are not", x.resolve(path("d")), 3);
        Images.lay(x, 48 + 1, 77);
        x.mount();
        Checks.illegalState("an inode that is none", () -> x.resolve(path("d")));
        Images.lay(x, 17, 4);
        x.mount();
        Checks.illegalState("a bad root", () -> x.resolve(0));
    }

    private static void rootIsNoDirectory() {
        PackedImage x = StatTest.inode(1 << 1);
        Checks.same("a file as inode 0", x.resolve(0), 0);
        Checks.same("on from it", x.resolve('a'), -1);
        PackedImage y = StatTest.inode(2 << 1 | 1 << 3, 1, 0, 1, 'a');
        Checks.same("a link as inode 0 is not followed", y.resolve(0), 0);
        Checks.same("nor gone on from", y.resolve('a'), -1);
        PackedImage z = StatTest.inode(1 << 3, 3, 0, 1, 'a', 0, 0);
        Checks.same("a directory that is in itself", z.resolve(path("aaaa")), 0);
    }
}
