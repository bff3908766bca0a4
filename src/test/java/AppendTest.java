/** Promise 5. */
public final class AppendTest {
    public static void main(String[] args) {
        Checks.test("a byte more of a file's content: its size", AppendTest::toFile);
        Checks.test("a byte more of a link's content: its size", AppendTest::toLink);
        Checks.test("a file in no entry has a content, too", AppendTest::toFileInNoEntry);
        Checks.test("there is no such node: no such number", AppendTest::noNode);
        Checks.test("there is no such node: the root", AppendTest::toRoot);
        Checks.test("there is no such node: a directory", AppendTest::toDirectory);
        Checks.test("the byte is not 0 .. 255: the least and the largest", AppendTest::edgesOfBytes);
        Checks.test("the byte is not 0 .. 255: below", AppendTest::byteTooSmall);
        Checks.test("the byte is not 0 .. 255: above", AppendTest::byteTooLarge);
        Checks.test("of a link no letter: the first and the last", AppendTest::edgesOfLetters);
        Checks.test("of a link no letter: others", AppendTest::noLetter);
        Checks.test("if it has 60", AppendTest::fullFile);
        Checks.test("if it has 60: a wrong byte is told first", AppendTest::wrongToFullFile);
        Checks.test("(4)", AppendTest::fullLink);
        Checks.test("(4): a wrong byte is told first", AppendTest::wrongToFullLink);
        Checks.test("(4): of a link, not of a file", AppendTest::fifthOfFile);
        Checks.test("if it has 60: each file its own", AppendTest::neighbours);
        Checks.test("wrong arguments: nothing comes of them", AppendTest::wrongChangesNothing);
        Checks.test("the tree, which is only built from", AppendTest::deviceStays);
        Checks.end();
    }

    private static PackedImage withLink(String path) {
        PackedImage x = new PackedImage();
        Images.link(x, 0, 'l', path);
        return x;
    }

    private static void toFile() {
        PackedImage x = Images.withFile("");
        Checks.same("the first", x.append(1, 'h'), 1);
        Checks.same("the second", x.append(1, 'i'), 2);
        x.build(0);
        x.mount();
        Checks.sameText("the data", Images.data(x, 1), "hi");
    }

    private static void toLink() {
        PackedImage x = withLink("");
        Checks.same("the first", x.append(1, 'l'), 1);
        Checks.same("the second", x.append(1, 'o'), 2);
        x.build(0);
        x.mount();
        Checks.sameText("the path", Images.data(x, 1), "lo");
    }

    private static void toFileInNoEntry() {
        PackedImage x = Images.withFile("hello");
        x.unlink(0, 'f');
        Checks.same("the size", x.append(1, '!'), 6);
        x.link(1, 0, 'f');
        x.build(0);
        x.mount();
        Checks.sameText("the data", Images.data(x, 1), "hello!");
    }

    private static void noNode() {
        PackedImage x = Images.withFile("");
        Checks.illegalArgument("-1", () -> x.append(-1, 'a'));
        Checks.illegalArgument("as many as there are", () -> x.append(2, 'a'));
        Checks.illegalArgument("15", () -> x.append(15, 'a'));
        Checks.illegalArgument("16", () -> x.append(16, 'a'));
        Checks.illegalArgument("the largest int", () -> x.append(Integer.MAX_VALUE, 'a'));
        Checks.illegalArgument("the least int", () -> x.append(Integer.MIN_VALUE, 'a'));
        Checks.same("the newest one", x.append(1, 'a'), 1);
    }

    private static void toRoot() {
        PackedImage x = new PackedImage();
        Checks.illegalArgument("a letter", () -> x.append(0, 'a'));
        Checks.illegalArgument("0", () -> x.append(0, 0));
    }

    private static void toDirectory() {
        PackedImage x = new PackedImage();
        Images.directory(x, 0, 'd');
        Checks.illegalArgument("a letter", () -> x.append(1, 'a'));
        Checks.illegalArgument("0", () -> x.append(1, 0));
    }

    private static void edgesOfBytes() {
        PackedImage x = Images.withFile("");
        Checks.same("0", x.append(1, 0), 1);
        Checks.same("255", x.append(1, 255), 2);
        x.build(0);
        x.mount();
        Checks.same("the first byte", x.read(1, 0), 0);
        Checks.same("the second byte", x.read(1, 1), 255);
    }

    private static void byteTooSmall() {
        PackedImage x = Images.withFile("");
        Checks.illegalArgument("-1", () -> x.append(1, -1));
        Checks.illegalArgument("the least int", () -> x.append(1, Integer.MIN_VALUE));
    }

    private static void byteTooLarge() {
        PackedImage x = Images.withFile("");
        Checks.illegalArgument("256", () -> x.append(1, 256));
        Checks.illegalArgument("the largest int", () -> x.append(1, Integer.MAX_VALUE));
    }

    private static void edgesOfLetters() {
        PackedImage x = withLink("");
        Checks.same("a", x.append(1, 'a'), 1);
        Checks.same("z", x.append(1, 'z'), 2);
        x.build(0);
        x.mount();
        Checks.sameText("the path", Images.data(x, 1), "az");
    }

    private static void noLetter() {
        PackedImage x = withLink("");
        for (int b : new int[] {-1, 0, '/', 'A', 'Z', 'a' - 1, 'z' + 1, 255, 256 + 'a', Integer.MIN_VALUE + 'a'}) {
            Checks.illegalArgument("" + b, () -> x.append(1, b));
        }
    }

    private static void fullFile() {
        PackedImage x = Images.withFile("");
        for (int size = 1; size <= 60; size++) {
            Checks.same("the size", x.append(1, size), size);
        }
        Checks.illegalState("a 61st byte", () -> x.append(1, 61));
        Checks.illegalState("a 61st byte again", () -> x.append(1, 61));
        x.build(0);
        x.mount();
        Checks.same("the size stays", x.stat(1, 2), 60);
        Checks.same("the last byte stays", x.read(1, 59), 60);
    }

    private static void wrongToFullFile() {
        PackedImage x = Images.withFile("x".repeat(60));
        Checks.illegalArgument("256", () -> x.append(1, 256));
        Checks.illegalArgument("-1", () -> x.append(1, -1));
    }

    private static void fullLink() {
        PackedImage x = withLink("");
        for (int size = 1; size <= 4; size++) {
            Checks.same("the size", x.append(1, 'a' + size), size);
        }
        Checks.illegalState("a fifth letter", () -> x.append(1, 'x'));
        Checks.illegalState("a fifth letter again", () -> x.append(1, 'x'));
        x.build(0);
        x.mount();
        Checks.sameText("the path stays", Images.data(x, 1), "bcde");
    }

    private static void wrongToFullLink() {
        PackedImage x = withLink("abcd");
        Checks.illegalArgument("no letter", () -> x.append(1, 'A'));
        Checks.illegalArgument("256", () -> x.append(1, 256));
    }

    private static void fifthOfFile() {
        PackedImage x = Images.withFile("abcd");
        Checks.same("the size", x.append(1, 'e'), 5);
    }

    private static void neighbours() {
        PackedImage x = new PackedImage();
        Images.file(x, 0, 'a', "p");
        Images.file(x, 0, 'b', "q".repeat(60));
        Images.file(x, 0, 'c', "r");
        Checks.illegalState("a 61st byte of b", () -> x.append(2, 's'));
        Checks.same("the second of a", x.append(1, 'P'), 2);
        Checks.same("the second of c", x.append(3, 'R'), 2);
        x.build(0);
        x.mount();
        Checks.sameText("a", Images.data(x, 1), "pP");
        Checks.sameText("b", Images.data(x, 2), "q".repeat(60));
        Checks.sameText("c", Images.data(x, 3), "rR");
    }

    private static void wrongChangesNothing() {
        PackedImage x = Images.withFile("a");
        Images.link(x, 0, 'l', "b");
        Checks.illegalArgument("256", () -> x.append(1, 256));
        Checks.illegalArgument("no letter", () -> x.append(2, 'B'));
        Checks.illegalArgument("the root", () -> x.append(0, 'c'));
        Checks.same("the file's size", x.append(1, 'd'), 2);
        Checks.same("the link's size", x.append(2, 'e'), 2);
        x.build(0);
        x.mount();
        Checks.sameText("the file's data", Images.data(x, 1), "ad");
        Checks.sameText("the link's path", Images.data(x, 2), "be");
    }

    private static void deviceStays() {
        PackedImage x = Images.mountedFile("old", 0);
        x.append(1, '!');
        Checks.same("the size", x.stat(1, 2), 3);
    }
}
