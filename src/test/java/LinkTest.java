/** Promises 3 and 4. */
public final class LinkTest {
    public static void main(String[] args) {
        Checks.test("link: one more entry for a file", LinkTest::more);
        Checks.test("link: a file in no entry", LinkTest::fromNone);
        Checks.test("link: there is no such file: no such node", LinkTest::noFile);
        Checks.test("link: there is no such file: the root", () -> notLinked(0));
        Checks.test("link: there is no such file: a directory", () -> notLinked(2));
        Checks.test("link: there is no such file: a link", () -> notLinked(3));
        Checks.test("link: no such directory: no such node", LinkTest::noDirectory);
        Checks.test("link: no such directory: a file", () -> notLinkedInto(1));
        Checks.test("link: no such directory: a link", () -> notLinkedInto(3));
        Checks.test("link: one letter a .. z: the first and the last", LinkTest::edgesOfLetters);
        Checks.test("link: the name is no letter", LinkTest::noLetter);
        Checks.test("link: taken there: by a file, the same one too", () -> taken('f'));
        Checks.test("link: taken there: by a directory", () -> taken('d'));
        Checks.test("link: taken there: by a link", () -> taken('l'));
        Checks.test("link: taken there: all 26 names", LinkTest::allNames);
        Checks.test("link: 16 nodes do not end it", LinkTest::sixteenNodes);
        Checks.test("link: wrong arguments: nothing comes of them", LinkTest::wrongLinks);
        Checks.test("unlink: a directory's entry is gone", LinkTest::gone);
        Checks.test("unlink: the last entry of a file", LinkTest::lastEntry);
        Checks.test("unlink: there is no such directory: no such node", LinkTest::unlinkNoDirectory);
        Checks.test("unlink: there is no such directory: a file", () -> notUnlinked(1, 'f'));
        Checks.test("unlink: there is no such directory: a link", () -> notUnlinked(3, 'f'));
        Checks.test("unlink: no such entry: an empty directory", () -> notUnlinked(2, 'f'));
        Checks.test("unlink: no such entry: another letter", LinkTest::otherLetters);
        Checks.test("unlink: no such entry: no letter", LinkTest::unlinkNoLetter);
        Checks.test("unlink: no such entry: gone already", LinkTest::twice);
        Checks.test("unlink: it is that of a directory", () -> notUnlinked(0, 'd'));
        Checks.test("unlink: it is that of a link", () -> notUnlinked(0, 'l'));
        Checks.test("unlink: wrong arguments: nothing comes of them", LinkTest::wrongUnlinks);
        Checks.test("link and unlink: the tree, which is only built from", LinkTest::deviceStays);
        Checks.end();
    }

    /** Node 1 a file f, 2 a directory d, 3 a link l, all in the root. */
    private static PackedImage three() {
        PackedImage x = Images.withFile("hello");
        Images.directory(x, 0, 'd');
        Images.link(x, 0, 'l', "f");
        return x;
    }

    private static Checks.Call linked(PackedImage x, int file, int directory, int name) {
        return Checks.of(() -> x.link(file, directory, (char) name));
    }

    private static Checks.Call unlinked(PackedImage x, int directory, int name) {
        return Checks.of(() -> x.unlink(directory, (char) name));
    }

    private static void more() {
        PackedImage x = three();
        x.link(1, 2, 'f');
        x.link(1, 2, 'g');
        x.link(1, 0, 'h');
        x.build(0);
        Checks.same("inodes", x.mount(), 4);
        Checks.same("the count", x.stat(1, 3), 4);
        Checks.same("the entry that was there", x.find(0, 'f'), 1);
        Checks.same("one of the same name elsewhere", x.find(2, 'f'), 1);
        Checks.same("one more there", x.find(2, 'g'), 1);
        Checks.same("one more in the root", x.find(0, 'h'), 1);
    }

    private static void fromNone() {
        PackedImage x = Images.withFile("hello");
        x.unlink(0, 'f');
        x.link(1, 0, 'g');
        x.build(0);
        x.mount();
        Checks.same("the count", x.stat(1, 3), 1);
        Checks.sameText("the content", Images.data(x, 1), "hello");
    }

    private static void noFile() {
        PackedImage x = three();
        Checks.illegalArgument("-1", linked(x, -1, 0, 'x'));
        Checks.illegalArgument("as many as there are", linked(x, 4, 0, 'x'));
        Checks.illegalArgument("15", linked(x, 15, 0, 'x'));
        Checks.illegalArgument("16", linked(x, 16, 0, 'x'));
        Checks.illegalArgument("the largest int", linked(x, Integer.MAX_VALUE, 0, 'x'));
        Checks.illegalArgument("the least int", linked(x, Integer.MIN_VALUE, 0, 'x'));
        Images.file(x, 0, 'g', "");
        Checks.sameText("the newest node", Checks.outcome(linked(x, 4, 0, 'x')), "nothing");
    }

    private static void notLinked(int node) {
        Checks.illegalArgument("node " + node, linked(three(), node, 0, 'x'));
    }

    private static void noDirectory() {
        PackedImage x = three();
        Checks.illegalArgument("-1", linked(x, 1, -1, 'x'));
        Checks.illegalArgument("as many as there are", linked(x, 1, 4, 'x'));
        Checks.illegalArgument("15", linked(x, 1, 15, 'x'));
        Checks.illegalArgument("16", linked(x, 1, 16, 'x'));
        Checks.illegalArgument("the largest int", linked(x, 1, Integer.MAX_VALUE, 'x'));
        Checks.illegalArgument("the least int", linked(x, 1, Integer.MIN_VALUE, 'x'));
        Images.directory(x, 0, 'e');
        Checks.sameText("the newest node", Checks.outcome(linked(x, 1, 4, 'x')), "nothing");
    }

    private static void notLinkedInto(int node) {
        Checks.illegalArgument("into node " + node, linked(three(), 1, node, 'x'));
    }

    private static void edgesOfLetters() {
        PackedImage x = three();
        x.link(1, 2, 'z');
        x.link(1, 2, 'a');
        x.build(0);
        x.mount();
        Checks.sameText("the entries", Images.data(x, 2), "a\1\1z\1\1");
    }

    private static void noLetter() {
        for (int name : new int[] {0, 'a' - 1, 'z' + 1, 'A', 'Z', '0', 255, 256 + 'a', 65535}) {
            Checks.illegalArgument("name " + name, linked(three(), 1, 0, name));
        }
    }

    private static void taken(char name) {
        Checks.illegalArgument("" + name, linked(three(), 1, 0, name));
    }

    private static void allNames() {
        PackedImage x = three();
        for (char name = 'a'; name <= 'z'; name++) {
            x.link(1, 2, name);
        }
        for (char name = 'a'; name <= 'z'; name++) {
            Checks.illegalArgument("" + name, linked(x, 1, 2, name));
        }
        x.build(0);
        x.mount();
        Checks.same("the size of 26 entries", x.stat(2, 2), 78);
        Checks.same("the count", x.stat(1, 3), 27);
    }

    private static void sixteenNodes() {
        PackedImage x = new PackedImage();
        for (int node = 1; node < 16; node++) {
            Images.file(x, 0, (char) ('a' + node), "");
        }
        x.link(15, 0, 'a');
        x.build(0);
        x.mount();
        Checks.same("the entry", x.find(0, 'a'), 15);
    }

    private static void wrongLinks() {
        PackedImage x = three();
        Checks.illegalArgument("no file", linked(x, 3, 0, 'x'));
        Checks.illegalArgument("no directory", linked(x, 1, 1, 'x'));
        Checks.illegalArgument("no letter", linked(x, 1, 0, 'X'));
        Checks.illegalArgument("taken", linked(x, 1, 0, 'l'));
        x.build(0);
        x.mount();
        Checks.same("the count", x.stat(1, 3), 1);
        Checks.same("the root's size", x.stat(0, 2), 9);
        Checks.same("the taken name's inode", x.find(0, 'l'), 3);
    }

    private static void gone() {
        PackedImage x = three();
        x.link(1, 2, 'f');
        x.link(1, 0, 'g');
        x.unlink(0, 'f');
        x.build(0);
        x.mount();
        Checks.same("it is not found", x.find(0, 'f'), -1);
        Checks.same("the same name elsewhere is", x.find(2, 'f'), 1);
        Checks.same("the same file's other one is", x.find(0, 'g'), 1);
        Checks.same("the count", x.stat(1, 3), 2);
        Checks.same("the root's size", x.stat(0, 2), 9);
    }

    private static void lastEntry() {
        PackedImage x = three();
        x.unlink(0, 'f');
        x.build(0);
        Checks.same("inodes", x.mount(), 3);
        Checks.same("the directory's inode is the next one", x.find(0, 'd'), 1);
        Checks.same("the link's is behind it", x.find(0, 'l'), 2);
    }

    private static void unlinkNoDirectory() {
        PackedImage x = three();
        Checks.illegalArgument("-1", unlinked(x, -1, 'f'));
        Checks.illegalArgument("as many as there are", unlinked(x, 4, 'f'));
        Checks.illegalArgument("15", unlinked(x, 15, 'f'));
        Checks.illegalArgument("16", unlinked(x, 16, 'f'));
        Checks.illegalArgument("the largest int", unlinked(x, Integer.MAX_VALUE, 'f'));
        Checks.illegalArgument("the least int", unlinked(x, Integer.MIN_VALUE, 'f'));
    }

    private static void notUnlinked(int directory, char name) {
        Checks.illegalArgument(name + " of node " + directory, unlinked(three(), directory, name));
    }

    private static void otherLetters() {
        for (int name : new int[] {'a', 'f' - 1, 'f' + 1, 'z'}) {
            Checks.illegalArgument("name " + name, unlinked(Images.withFile(""), 0, name));
        }
    }

    private static void unlinkNoLetter() {
        PackedImage x = new PackedImage();
        Images.file(x, 0, 'a', "");
        Images.file(x, 0, 'z', "");
        Images.directory(x, 0, 'd');
        Images.file(x, 3, 'a', "");
        for (int name : new int[] {0, 'a' - 1, 'z' + 1, 'A', 255, 256 + 'a', 65535}) {
            Checks.illegalArgument("name " + name, unlinked(x, 0, name));
            Checks.illegalArgument("name " + name + " of another directory", unlinked(x, 3, name));
        }
    }

    private static void twice() {
        PackedImage x = three();
        x.unlink(0, 'f');
        Checks.illegalArgument("again", unlinked(x, 0, 'f'));
    }

    private static void wrongUnlinks() {
        PackedImage x = three();
        Checks.illegalArgument("a directory's", unlinked(x, 0, 'd'));
        Checks.illegalArgument("a link's", unlinked(x, 0, 'l'));
        Checks.illegalArgument("none", unlinked(x, 2, 'f'));
        x.build(0);
        Checks.same("inodes", x.mount(), 4);
        Checks.sameText("the root's entries", Images.data(x, 0), "d\2\0f\1\1l\3\2");
        Checks.same("the directory's count", x.stat(2, 3), 1);
        Checks.same("the link's count", x.stat(3, 3), 1);
    }

    private static void deviceStays() {
        PackedImage x = Images.mountedFile("old", 0);
        x.link(1, 0, 'g');
        x.unlink(0, 'f');
        Checks.same("the entry that is gone", x.find(0, 'f'), 1);
        Checks.same("the entry more", x.find(0, 'g'), -1);
        Checks.same("the count", x.stat(1, 3), 1);
    }
}
