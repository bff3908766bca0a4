/** Promise 14. */
public final class ResolveTest {
    public static void main(String[] args) {
        Checks.test("goes a path of letters: none", ResolveTest::none);
        Checks.test("goes a path of letters: one to four, with all flags", ResolveTest::oneToFour);
        Checks.test("the lowest eight bits of it the first one", ResolveTest::lowestFirst);
        Checks.test("till they are 0 (at most four): what is behind a 0", ResolveTest::behindZero);
        Checks.test("till they are 0 (at most four): the lowest are 0", ResolveTest::lowestZero);
        Checks.test("till they are 0 (at most four): letters of more than 127", ResolveTest::highLetters);
        Checks.test("from inode 0 on: a directory that is in itself", ResolveTest::inItself);
        Checks.test("the inode it comes to: a file, a directory", ResolveTest::comesTo);
        Checks.test("a link is followed: its path from inode 0 on", ResolveTest::fromRoot);
        Checks.test("a link is followed, before the path goes on", ResolveTest::goesOn);
        Checks.test("a link is followed: also the last one", ResolveTest::lastOne);
        Checks.test("a link is followed: links in a link's path", ResolveTest::linksInLink);
        Checks.test("a link is followed: an empty path", ResolveTest::emptyPath);
        Checks.test("a link is followed: a path of four letters", ResolveTest::fourLetters);
        Checks.test("a link is followed: only one that is found", ResolveTest::linkAsRoot);
        Checks.test("-1 if a name is not found", ResolveTest::notFound);
        Checks.test("-1 if a name is not found: of a link's path", ResolveTest::notFoundByLink);
        Checks.test("-1 if what is to be gone on from is no directory: a file", ResolveTest::onFromFile);
        Checks.test("-1 if what is to be gone on from is no directory: inode 0", ResolveTest::onFromRoot);
        Checks.test("-1 if what is to be gone on from is no directory: what a link comes to", ResolveTest::onFromLink);
        Checks.test("-1 if a link's path has more than 4 bytes", ResolveTest::longPath);
        Checks.test("-1 if a link's path has more than 4 bytes: 255", ResolveTest::longestPath);
        Checks.test("-1 if a link's path has more than 4 bytes: PLAIN and TAILED", ResolveTest::longPathInRest);
        Checks.test("-1 if more than 4 links would be followed: a chain of four", ResolveTest::fourLinks);
        Checks.test("-1 if more than 4 links would be followed: a chain of five", ResolveTest::fiveLinks);
        Checks.test("-1 if more than 4 links would be followed: a ring", ResolveTest::ring);
        Checks.test("-1 if more than 4 links would be followed: one for each letter", ResolveTest::oneForEach);
        Checks.test("-1 if more than 4 links would be followed: all that the path meets", ResolveTest::allTogether);
        Checks.test("-1 if more than 4 links would be followed: counted anew by each call", ResolveTest::anew);
        Checks.test("the most letters: four links of four letters each", ResolveTest::mostLetters);
        Checks.test("if nothing is mounted", ResolveTest::notMounted);
        Checks.test("if inode 0 is bad", ResolveTest::badRoot);
        Checks.test("if inode 0 is none", ResolveTest::noRoot);
        Checks.test("if one that is found is bad", ResolveTest::badFound);
        Checks.test("if one that is found is bad: a link", ResolveTest::badLink);
        Checks.test("if one that is found is bad: a fifth link", ResolveTest::badFifth);
        Checks.test("if one that is found is none", ResolveTest::noneFound);
        Checks.test("if one that is found is none: the second slot of a long one", ResolveTest::secondSlot);
        Checks.test("whichever comes first", ResolveTest::first);
        Checks.test("a byte 0 in a link's path does not end it", ResolveTest::zeroInLink);
        Checks.test("the cache is not used", ResolveTest::noCache);
        Checks.end();
    }

    private static int resolve(PackedImage x, String letters) {
        return x.resolve(Images.path(letters));
    }

    /** Directories a, b in it, c in that, and a file d in that: inodes 1 to 4. */
    private static PackedImage deep(int flags) {
        PackedImage x = new PackedImage();
        Images.directory(x, 0, 'a');
        Images.directory(x, 1, 'b');
        Images.directory(x, 2, 'c');
        Images.file(x, 3, 'd', "deep");
        x.build(flags);
        x.mount();
        return x;
    }

    private static void none() {
        Checks.same("0", deep(0).resolve(0), 0);
    }

    private static void oneToFour() {
        for (int flags = 0; flags < 8; flags++) {
            PackedImage x = deep(flags);
            Checks.same("a", resolve(x, "a"), 1);
            Checks.same("ab", resolve(x, "ab"), 2);
            Checks.same("abc", resolve(x, "abc"), 3);
            Checks.same("abcd", resolve(x, "abcd"), 4);
        }
    }

    private static void lowestFirst() {
        PackedImage x = deep(0);
        Checks.same("97 + 98 * 256", x.resolve(97 + 98 * 256), 2);
        Checks.same("98 + 97 * 256", x.resolve(98 + 97 * 256), -1);
    }

    private static void behindZero() {
        PackedImage x = deep(0);
        Checks.same("a, 0, b", resolve(x, "a\0b"), 1);
        Checks.same("a, 0, 0, q", resolve(x, "a\0\0q"), 1);
        Checks.same("a, b, 0, q", resolve(x, "ab\0q"), 2);
    }

    private static void lowestZero() {
        PackedImage x = deep(0);
        Checks.same("0, q", resolve(x, "\0q"), 0);
        Checks.same("the least int", x.resolve(Integer.MIN_VALUE), 0);
    }

    private static void highLetters() {
        PackedImage x = deep(0);
        Checks.same("a, b, c, 255", resolve(x, "abc\u00ff"), -1);
        Checks.same("-1", x.resolve(-1), -1);
        PackedImage y = Images.directoryOf(128, 0, 0, 255, 0, 0);
        Checks.same("128 each", resolve(y, "\u0080\u0080\u0080\u0080"), 0);
        Checks.same("255 each", y.resolve(-1), 0);
    }

    private static void inItself() {
        PackedImage x = Images.directoryOf('a', 0, 0);
        Checks.same("aaaa", resolve(x, "aaaa"), 0);
        Checks.same("aaab", resolve(x, "aaab"), -1);
    }

    private static void comesTo() {
        PackedImage x = new PackedImage();
        Images.directory(x, 0, 'd');
        Images.file(x, 0, 'f', "");
        x.build(0);
        x.mount();
        Checks.same("d", resolve(x, "d"), 1);
        Checks.same("f", resolve(x, "f"), 2);
    }

    /**
     * A directory a (inode 1) with a file f (2), a link l to af (3) and one, p, to ml (4);
     * links m to a (5), n to nothing (6), o to mmmm (7), q to nnmf (8).
     */
    private static PackedImage links() {
        PackedImage x = new PackedImage();
        int a = Images.directory(x, 0, 'a');
        Images.file(x, a, 'f', "");
        Images.link(x, a, 'l', "af");
        Images.link(x, a, 'p', "ml");
        Images.link(x, 0, 'm', "a");
        Images.link(x, 0, 'n', "");
        Images.link(x, 0, 'o', "mmmm");
        Images.link(x, 0, 'q', "nnmf");
        x.build(0);
        x.mount();
        return x;
    }

    private static void fromRoot() {
        Checks.same("al", resolve(links(), "al"), 2);
    }

    private static void goesOn() {
        Checks.same("mf", resolve(links(), "mf"), 2);
        Checks.same("ml", resolve(links(), "ml"), 2);
        Checks.same("nmf", resolve(links(), "nmf"), 2);
    }

    private static void lastOne() {
        Checks.same("m", resolve(links(), "m"), 1);
        Checks.same("nm", resolve(links(), "nm"), 1);
    }

    private static void linksInLink() {
        Checks.same("ap", resolve(links(), "ap"), 2);
        Checks.same("mp", resolve(links(), "mp"), 2);
    }

    private static void emptyPath() {
        Checks.same("n", resolve(links(), "n"), 0);
        Checks.same("na", resolve(links(), "na"), 1);
        Checks.same("nnnn", resolve(links(), "nnnn"), 0);
    }

    private static void fourLetters() {
        Checks.same("q", resolve(links(), "q"), 2);
    }

    private static void linkAsRoot() {
        PackedImage x = Images.inode(Images.LINK | Images.TAILED, 3, 0, 1, 'a', 0, 2);
        Checks.same("inode 0 itself", x.resolve(0), 0);
        Checks.same("on from it", x.resolve('a'), -1);
    }

    private static void notFound() {
        PackedImage x = deep(0);
        Checks.same("q", resolve(x, "q"), -1);
        Checks.same("b", resolve(x, "b"), -1);
        Checks.same("aq", resolve(x, "aq"), -1);
        Checks.same("qa", resolve(x, "qa"), -1);
        Checks.same("abcq", resolve(x, "abcq"), -1);
        PackedImage y = new PackedImage();
        y.build(0);
        y.mount();
        Checks.same("in an empty root", y.resolve('a'), -1);
    }

    private static void notFoundByLink() {
        Checks.same("o: m in a", resolve(links(), "o"), -1);
        Checks.same("oa", resolve(links(), "oa"), -1);
    }

    private static void onFromFile() {
        PackedImage x = deep(0);
        Checks.same("the file", resolve(x, "abcd"), 4);
        PackedImage y = Images.mountedFile("", 0);
        Checks.same("f", resolve(y, "f"), 1);
        Checks.same("ff", resolve(y, "ff"), -1);
        PackedImage z = Images.mountedFile("f\1\1", 0);
        Checks.same("f, with a content like entries", resolve(z, "f"), 1);
        Checks.same("ff, with a content like entries", resolve(z, "ff"), -1);
    }

    private static void onFromRoot() {
        PackedImage x = Images.inode(Images.FILE | Images.TAILED, 3, 0, 1, 'a', 0, 1);
        Checks.same("a file", x.resolve(0), 0);
        Checks.same("on from it", x.resolve('a'), -1);
    }

    private static void onFromLink() {
        PackedImage x = links();
        Checks.same("alf", resolve(x, "alf"), -1);
        Checks.same("qa", resolve(x, "qa"), -1);
        PackedImage y = Images.withFile("f\1\1l\2\2");
        Images.link(y, 0, 'l', "f");
        y.build(0);
        y.mount();
        Checks.same("lf, with a content like entries", resolve(y, "lf"), -1);
        Checks.same("ll, with a content like entries", resolve(y, "ll"), -1);
    }

    /** A file f and a link l to ffff, PLAIN; with another size of the link. */
    private static int withPathOf(int size) {
        PackedImage x = Images.withFile("");
        Images.link(x, 0, 'l', "f");
        x.build(0);
        x.poke(33, size);
        x.mount();
        Checks.same("the link is not bad", x.stat(2, 5), 0);
        return resolve(x, "l");
    }

    private static void longPath() {
        Checks.same("1", withPathOf(1), 1);
        Checks.same("5", withPathOf(5), -1);
        Checks.same("16", withPathOf(16), -1);
    }

    /** The path begins with what is found, and goes on with it: inode 0, in itself. */
    private static PackedImage pathInRing(int size, int used) {
        PackedImage x = new PackedImage();
        Images.lay(x, 16, 0, 6, 2, 1, 0, 0, 0, 0, Images.LINK, size, 3, 1);
        Images.lay(x, 32, 'a', 0, 0, 'l', 1, 2);
        for (int i = 0; i < size; i++) {
            x.poke(48 + i, 'a');
        }
        Images.header(x, 2, used);
        x.mount();
        return x;
    }

    private static void longestPath() {
        Checks.same("4", resolve(pathInRing(4, 4), "l"), 0);
        Checks.same("5", resolve(pathInRing(5, 4), "l"), -1);
        Checks.same("255", resolve(pathInRing(255, 19), "l"), -1);
        Checks.same("5, then on", resolve(pathInRing(5, 4), "la"), -1);
    }

    private static void longPathInRest() {
        for (int size = 4; size <= 5; size++) {
            PackedImage x = new PackedImage();
            Images.lay(x, 16, Images.LONG | Images.TAILED, 6, 0, 1, 'a', 0, 0, 'l', 2, 2);
            Images.lay(x, 32, Images.LONG | Images.LINK | Images.TAILED, size, 0, 1, 'a', 'a', 'a', 'a', 'a');
            Images.header(x, 4, 3);
            x.mount();
            Checks.same("TAILED, " + size, resolve(x, "l"), size == 4 ? 0 : -1);
        }
    }

    /** Links a to b, b to c, c to d, d to e, z to a, l to l; a directory e (inode 5) with a link q to e. */
    private static PackedImage chain() {
        PackedImage x = new PackedImage();
        Images.link(x, 0, 'a', "b");
        Images.link(x, 0, 'b', "c");
        Images.link(x, 0, 'c', "d");
        Images.link(x, 0, 'd', "e");
        Images.directory(x, 0, 'e');
        Images.link(x, 0, 'l', "l");
        Images.link(x, 0, 'z', "a");
        Images.link(x, 5, 'q', "e");
        x.build(0);
        x.mount();
        return x;
    }

    private static void fourLinks() {
        Checks.same("a", resolve(chain(), "a"), 5);
    }

    private static void fiveLinks() {
        Checks.same("z", resolve(chain(), "z"), -1);
    }

    private static void ring() {
        Checks.same("l", resolve(chain(), "l"), -1);
        Checks.same("ll", resolve(chain(), "ll"), -1);
    }

    private static void oneForEach() {
        Checks.same("dqqq", resolve(chain(), "dqqq"), 5);
        Checks.same("cqqq", resolve(chain(), "cqqq"), -1);
    }

    private static void allTogether() {
        Checks.same("four and none", resolve(chain(), "a"), 5);
        Checks.same("four and one", resolve(chain(), "aq"), -1);
        Checks.same("three and one", resolve(chain(), "bq"), 5);
        Checks.same("three and two", resolve(chain(), "bqq"), -1);
        Checks.same("none and three", resolve(chain(), "eqqq"), 5);
    }

    private static void anew() {
        PackedImage x = chain();
        for (int i = 0; i < 3; i++) {
            Checks.same("a", resolve(x, "a"), 5);
            Checks.same("z", resolve(x, "z"), -1);
        }
    }

    /** A root that is in itself by r, with links a .. d of these paths. */
    private static PackedImage fourLinksTo(String... paths) {
        PackedImage x = new PackedImage();
        Images.lay(x, 16, 0, 15, 4, 1);
        Images.lay(x, 64, 'a', 1, 2, 'b', 2, 2, 'c', 3, 2, 'd', 4, 2, 'r', 0, 0);
        for (int i = 0; i < 4; i++) {
            Images.lay(x, 24 + 8 * i, Images.LINK | Images.TAILED, 4, 0, 1);
            for (int letter = 0; letter < 4; letter++) {
                x.poke(28 + 8 * i + letter, paths[i].charAt(letter));
            }
        }
        Images.header(x, 5, 5);
        x.mount();
        return x;
    }

    private static void mostLetters() {
        PackedImage last = fourLinksTo("rrrb", "rrrc", "rrrd", "rrrr");
        Checks.same("the next link at the end of each: rrra", resolve(last, "rrra"), 0);
        Checks.same("arrr", resolve(last, "arrr"), 0);
        Checks.same("arrq", resolve(last, "arrq"), -1);
        PackedImage first = fourLinksTo("brrr", "crrr", "drrr", "rrrr");
        Checks.same("the next link at the beginning of each: arrr", resolve(first, "arrr"), 0);
        Checks.same("arrq", resolve(first, "arrq"), -1);
        Checks.same("arra", resolve(first, "arra"), -1);
    }

    private static void notMounted() {
        PackedImage x = Images.withFile("");
        Checks.illegalState("a new object", () -> x.resolve(0));
        x.build(0);
        Checks.illegalState("built", () -> x.resolve('f'));
        x.mount();
        Checks.same("mounted", x.resolve('f'), 1);
        x.seal();
        Checks.illegalState("sealed", () -> x.resolve('f'));
    }

    private static void badRoot() {
        for (int path : new int[] {0, 'a', -1}) {
            Checks.illegalState("4 bytes", () -> Images.inode(0, 4, 2).resolve(path));
            Checks.illegalState("kind 3", () -> Images.inode(Images.KIND_3).resolve(path));
            Checks.illegalState("a bad file", () -> Images.inode(Images.FILE, 1, 99).resolve(path));
        }
    }

    private static void noRoot() {
        PackedImage x = Images.inode(Images.LONG);
        Images.header(x, 1, 2);
        x.mount();
        Checks.illegalState("0", () -> x.resolve(0));
        Checks.illegalState("a", () -> x.resolve('a'));
    }

    /** A file f (inode 1), a link l to it (2) and a directory d (3); the root's data in block 3. */
    private static PackedImage three() {
        PackedImage x = Images.withFile("x");
        Images.link(x, 0, 'l', "f");
        Images.directory(x, 0, 'd');
        x.build(0);
        return x;
    }

    private static void badFound() {
        PackedImage x = three();
        x.poke(16 + 8 + 2, 99);
        x.mount();
        Checks.illegalState("f", () -> resolve(x, "f"));
        Checks.illegalState("by a link", () -> resolve(x, "l"));
        Checks.illegalState("before it is no directory", () -> resolve(x, "fa"));
        Checks.same("another one", resolve(x, "d"), 3);
        Checks.same("before it is found", resolve(x, "qf"), -1);
    }

    private static void badLink() {
        PackedImage x = three();
        x.poke(16 + 16 + 2, 99);
        x.mount();
        Checks.illegalState("l", () -> resolve(x, "l"));
        x.poke(16 + 16 + 1, 255);
        x.mount();
        Checks.illegalState("l with 255 bytes", () -> resolve(x, "l"));
    }

    private static void badFifth() {
        PackedImage x = chain();
        Checks.same("z", resolve(x, "z"), -1);
        x.poke(16 + 4 * 8 + 2, 99);
        x.mount();
        Checks.illegalState("z, whose fifth link is bad", () -> resolve(x, "z"));
    }

    private static void noneFound() {
        for (int inode : new int[] {4, 126, 255}) {
            PackedImage x = three();
            Checks.same("the entry of d", x.peek(48), 'd');
            x.poke(49, inode);
            x.mount();
            Checks.illegalState("inode " + inode, () -> resolve(x, "d"));
            Checks.illegalState("inode " + inode + ", then on", () -> resolve(x, "da"));
            Checks.same("another one", resolve(x, "f"), 1);
        }
    }

    private static void secondSlot() {
        PackedImage x = Images.mountedFile("12345", 1);
        Checks.same("f", resolve(x, "f"), 1);
        x.poke(21, 2);
        x.mount();
        Checks.illegalState("the second slot of f", () -> resolve(x, "f"));
    }

    private static void first() {
        PackedImage x = three();
        x.poke(16 + 8 + 2, 99);
        x.mount();
        Checks.same("not found, then a bad one", resolve(x, "dqf"), -1);
        Checks.illegalState("a bad one, then not found", () -> resolve(x, "fq"));
        PackedImage y = chain();
        y.poke(16 + 5 * 8, Images.KIND_3);
        y.mount();
        Checks.same("five links, then a bad one", resolve(y, "z"), -1);
        Checks.illegalState("four links, then a bad one", () -> resolve(y, "a"));
    }

    private static void zeroInLink() {
        Checks.same("f, then a name 0 that is not found", withPathOf(2), -1);
        PackedImage x = Images.directoryOf(0, 0, 0, 'l', 1, 2);
        Images.lay(x, 24, Images.LINK | Images.TAILED, 2, 0, 1, 0, 0);
        x.mount();
        Checks.same("a name 0 that is found", resolve(x, "l"), 0);
    }

    private static void noCache() {
        PackedImage x = Images.mountedFile("a".repeat(40), 4);
        Checks.same("f", resolve(x, "f"), 1);
        Checks.same("hits", x.cache(true), 0);
        Checks.same("misses", x.cache(false), 0);
    }
}
