/** Promise 2. */
public final class CreateTest {
    public static void main(String[] args) {
        Checks.test("a new node of a kind, in a directory, by a name: its number", CreateTest::numbers);
        Checks.test("DIRECTORIES (kind 0), FILES (1) and LINKS (2)", CreateTest::kinds);
        Checks.test("if the kind is not 0 .. 2: below", CreateTest::kindTooSmall);
        Checks.test("if the kind is not 0 .. 2: above", CreateTest::kindTooLarge);
        Checks.test("there is no such directory: no such node", CreateTest::noNode);
        Checks.test("there is no such directory: a file", () -> notInto(1));
        Checks.test("there is no such directory: a link", () -> notInto(2));
        Checks.test("one letter a .. z: the first and the last", CreateTest::edgesOfLetters);
        Checks.test("the name is no letter: before a", () -> noName('a' - 1));
        Checks.test("the name is no letter: behind z", () -> noName('z' + 1));
        Checks.test("the name is no letter: capitals", CreateTest::capitals);
        Checks.test("the name is no letter: the edges of char", CreateTest::edgesOfChar);
        Checks.test("the name is no letter: one of more than 8 bits", () -> noName(256 + 'a'));
        Checks.test("taken there: by a directory", () -> taken(0));
        Checks.test("taken there: by a file", () -> taken(1));
        Checks.test("taken there: by a link", () -> taken(2));
        Checks.test("taken there: by one more entry for a file", CreateTest::takenByMore);
        Checks.test("taken there: not elsewhere", CreateTest::notElsewhere);
        Checks.test("taken there: not any more", CreateTest::notAnyMore);
        Checks.test("NODES 0, 1, .. (at most 16): the last one", CreateTest::lastNode);
        Checks.test("if there are 16", CreateTest::full);
        Checks.test("if there are 16: a file in no entry is one of them", CreateTest::fullWithoutEntry);
        Checks.test("if there are 16: a wrong argument is told first", CreateTest::wrongAndFull);
        Checks.test("if there are 16: nothing comes of it", CreateTest::fullChangesNothing);
        Checks.test("wrong arguments: nothing comes of them", CreateTest::wrongChangesNothing);
        Checks.test("the tree, which is only built from", CreateTest::deviceStays);
        Checks.end();
    }

    private static void numbers() {
        PackedImage x = new PackedImage();
        Checks.same("a directory", x.create(0, 0, 'z'), 1);
        Checks.same("a file in it", x.create(1, 1, 'a'), 2);
        Checks.same("a link in it", x.create(2, 1, 'z'), 3);
        Checks.same("a file in the root", x.create(1, 0, 'a'), 4);
        x.build(0);
        Checks.same("inodes", x.mount(), 5);
        Checks.same("the directory's inode", x.find(0, 'z'), 1);
        Checks.same("the file's", x.find(1, 'a'), 2);
        Checks.same("the link's", x.find(1, 'z'), 3);
        Checks.same("the file's in the root", x.find(0, 'a'), 4);
    }

    private static void kinds() {
        PackedImage x = new PackedImage();
        for (int kind = 0; kind <= 2; kind++) {
            Checks.same("a node of kind " + kind, x.create(kind, 0, (char) ('a' + kind)), kind + 1);
        }
        x.build(0);
        x.mount();
        for (int kind = 0; kind <= 2; kind++) {
            Checks.same("its inode's kind", x.stat(kind + 1, 0), kind);
        }
        Checks.same("the root's kind", x.stat(0, 0), 0);
    }

    private static void kindTooSmall() {
        PackedImage x = new PackedImage();
        Checks.illegalArgument("-1", () -> x.create(-1, 0, 'a'));
        Checks.illegalArgument("the least int", () -> x.create(Integer.MIN_VALUE, 0, 'a'));
    }

    private static void kindTooLarge() {
        PackedImage x = new PackedImage();
        Checks.illegalArgument("3", () -> x.create(3, 0, 'a'));
        Checks.illegalArgument("4", () -> x.create(4, 0, 'a'));
        Checks.illegalArgument("the largest int", () -> x.create(Integer.MAX_VALUE, 0, 'a'));
    }

    private static void noNode() {
        PackedImage x = new PackedImage();
        Images.directory(x, 0, 'd');
        Checks.illegalArgument("-1", () -> x.create(1, -1, 'a'));
        Checks.illegalArgument("as many as there are", () -> x.create(1, 2, 'a'));
        Checks.illegalArgument("15", () -> x.create(1, 15, 'a'));
        Checks.illegalArgument("16", () -> x.create(1, 16, 'a'));
        Checks.illegalArgument("the largest int", () -> x.create(1, Integer.MAX_VALUE, 'a'));
        Checks.illegalArgument("the least int", () -> x.create(1, Integer.MIN_VALUE, 'a'));
        Checks.same("the newest node", x.create(1, 1, 'a'), 2);
    }

    private static void notInto(int kind) {
        PackedImage x = new PackedImage();
        x.create(kind, 0, 'n');
        Checks.illegalArgument("into a node of kind " + kind, () -> x.create(1, 1, 'a'));
    }

    private static void edgesOfLetters() {
        PackedImage x = new PackedImage();
        Checks.same("a", x.create(1, 0, 'a'), 1);
        Checks.same("z", x.create(1, 0, 'z'), 2);
        x.build(0);
        Checks.sameText("the entries", Images.bytes(x, 48, 6), "97 1 1 122 2 1");
    }

    private static void noName(int name) {
        PackedImage x = new PackedImage();
        for (int kind = 0; kind <= 2; kind++) {
            int made = kind;
            Checks.illegalArgument("name " + name, () -> x.create(made, 0, (char) name));
        }
    }

    private static void capitals() {
        noName('A');
        noName('Z');
    }

    private static void edgesOfChar() {
        noName(0);
        noName(255);
        noName(65535);
    }

    private static void taken(int kind) {
        PackedImage x = new PackedImage();
        x.create(kind, 0, 'n');
        for (int other = 0; other <= 2; other++) {
            int made = other;
            Checks.illegalArgument("for kind " + made, () -> x.create(made, 0, 'n'));
        }
    }

    private static void takenByMore() {
        PackedImage x = Images.withFile("");
        x.link(1, 0, 'm');
        Checks.illegalArgument("by link", () -> x.create(1, 0, 'm'));
    }

    private static void notElsewhere() {
        PackedImage x = new PackedImage();
        Images.directory(x, 0, 'n');
        Checks.same("the same name in a directory of that name", x.create(0, 1, 'n'), 2);
        Checks.same("and in that one", x.create(1, 2, 'n'), 3);
    }

    private static void notAnyMore() {
        PackedImage x = Images.withFile("");
        x.unlink(0, 'f');
        Checks.same("a new file", x.create(1, 0, 'f'), 2);
    }

    /** Node 1 a file, the others of all kinds, by names b .. p. */
    private static PackedImage sixteen() {
        PackedImage x = new PackedImage();
        for (int node = 1; node < 16; node++) {
            Checks.same("node", x.create(node % 3, 0, (char) ('a' + node)), node);
        }
        return x;
    }

    private static void lastNode() {
        PackedImage x = sixteen();
        x.build(0);
        Checks.same("inodes", x.mount(), 16);
        Checks.same("the last one's", x.find(0, 'p'), 15);
    }

    private static void full() {
        PackedImage x = sixteen();
        for (int kind = 0; kind <= 2; kind++) {
            int made = kind;
            Checks.illegalState("one more of kind " + kind, () -> x.create(made, 0, 'a'));
        }
        Checks.illegalState("one more in another directory", () -> x.create(1, 3, 'a'));
    }

    private static void fullWithoutEntry() {
        PackedImage x = sixteen();
        x.unlink(0, 'b');
        Checks.illegalState("one more", () -> x.create(1, 0, 'b'));
    }

    private static void wrongAndFull() {
        PackedImage x = sixteen();
        Checks.illegalArgument("a wrong kind", () -> x.create(3, 0, 'a'));
        Checks.illegalArgument("no directory", () -> x.create(1, 1, 'a'));
        Checks.illegalArgument("no letter", () -> x.create(1, 0, 'A'));
        Checks.illegalArgument("a taken name", () -> x.create(1, 0, 'b'));
    }

    private static void fullChangesNothing() {
        PackedImage x = sixteen();
        Checks.illegalState("one more", () -> x.create(1, 0, 'a'));
        Checks.illegalArgument("it has no entry", Checks.of(() -> x.unlink(0, 'a')));
        Checks.illegalArgument("it is no node", () -> x.append(16, 'a'));
        x.link(1, 0, 'a');
        x.build(0);
        Checks.same("inodes", x.mount(), 16);
        Checks.same("the name was free", x.find(0, 'a'), 1);
    }

    private static void wrongChangesNothing() {
        PackedImage x = Images.withFile("");
        Checks.illegalArgument("a wrong kind", () -> x.create(3, 0, 'a'));
        Checks.illegalArgument("a file as directory", () -> x.create(1, 1, 'a'));
        Checks.illegalArgument("no letter", () -> x.create(1, 0, 'A'));
        Checks.illegalArgument("a taken name", () -> x.create(0, 0, 'f'));
        Checks.same("the next number", x.create(1, 0, 'a'), 2);
        x.build(0);
        x.mount();
        Checks.same("the taken name's inode", x.find(0, 'f'), 1);
        Checks.same("its kind", x.stat(1, 0), 1);
        Checks.same("the root's size", x.stat(0, 2), 6);
    }

    private static void deviceStays() {
        PackedImage x = Images.mountedFile("old", 0);
        x.create(1, 0, 'g');
        Checks.same("it is mounted still", x.find(0, 'g'), -1);
        Checks.same("the root's size", x.stat(0, 2), 3);
    }
}
