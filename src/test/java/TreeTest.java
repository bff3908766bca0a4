/** Promises 2 to 5. */
public final class TreeTest {
    public static void main(String[] args) {
        create();
        createWrong();
        createFull();
        linkAndUnlink();
        linkWrong();
        unlinkWrong();
        append();
        appendWrong();
        treeLeavesMountAlone();
        Checks.end();
    }

    private static void create() {
        PackedImage x = new PackedImage();
        Checks.same("a directory", x.create(0, 0, 'z'), 1);
        Checks.same("a file in it", x.create(1, 1, 'a'), 2);
        Checks.same("a link in it", x.create(2, 1, 'z'), 3);
        Checks.same("a name of another directory", x.create(1, 0, 'a'), 4);
        x.build(0);
        Checks.same("inodes", x.mount(), 5);
        Checks.same("the directory's inode", x.find(0, 'z'), 1);
        Checks.same("the file's", x.find(1, 'a'), 2);
        Checks.same("the link's", x.find(1, 'z'), 3);
        Checks.same("the file's in the root", x.find(0, 'a'), 4);
        Checks.same("a link's kind", x.stat(3, 0), 2);
    }

    private static void createWrong() {
        PackedImage x = new PackedImage();
        Images.file(x, 0, 'f', "");
        Images.link(x, 0, 'l', "");
        Checks.illegalArgument("kind 3", () -> x.create(3, 0, 'a'));
        Checks.illegalArgument("kind -1", () -> x.create(-1, 0, 'a'));
        Checks.illegalArgument("a file as directory", () -> x.create(1, 1, 'a'));
        Checks.illegalArgument("a link as directory", () -> x.create(1, 2, 'a'));
        Checks.illegalArgument("no node", () -> x.create(1, 3, 'a'));
        Checks.illegalArgument("directory -1", () -> x.create(1, -1, 'a'));
        Checks.illegalArgument("directory 16", () -> x.create(1, 16, 'a'));
        Checks.illegalArgument("directory at the edge of int", () -> x.create(1, Integer.MAX_VALUE, 'a'));
        Checks.illegalArgument("a capital", () -> x.create(1, 0, 'A'));
        Checks.illegalArgument("before a", () -> x.create(1, 0, (char) ('a' - 1)));
        Checks.illegalArgument("behind z", () -> x.create(1, 0, (char) ('z' + 1)));
        Checks.illegalArgument("a wide character", () -> x.create(1, 0, (char) (256 + 'a')));
        Checks.illegalArgument("a taken name", () -> x.create(0, 0, 'f'));
        Checks.same("nothing came of them", x.create(1, 0, 'a'), 3);
    }

    private static void createFull() {
        PackedImage x = new PackedImage();
        for (int node = 1; node < 16; node++) {
            Checks.same("node", x.create(node % 3, 0, (char) ('a' + node)), node);
        }
        Checks.illegalState("a 17th node", () -> x.create(1, 0, 'a'));
        Checks.illegalArgument("a wrong kind comes first", () -> x.create(3, 0, 'a'));
        Checks.illegalArgument("a taken name comes first", () -> x.create(1, 0, 'b'));
        x.unlink(0, 'b');
        Checks.illegalState("a node without entries is still one", () -> x.create(1, 0, 'b'));
        x.link(1, 0, 'b');
        x.build(0);
        Checks.same("inodes", x.mount(), 16);
    }

    private static void linkAndUnlink() {
        PackedImage x = new PackedImage();
        int file = Images.file(x, 0, 'f', "hello");
        int directory = Images.directory(x, 0, 'd');
        x.link(file, directory, 'g');
        x.link(file, 0, 'h');
        x.build(0);
        x.mount();
        Checks.same("the count", x.stat(1, 3), 3);
        Checks.same("an entry more", x.find(2, 'g'), 1);
        Checks.same("an entry more in the root", x.find(0, 'h'), 1);
        x.unlink(0, 'f');
        x.build(0);
        x.mount();
        Checks.same("the count without one", x.stat(1, 3), 2);
        Checks.same("the entry that is gone", x.find(0, 'f'), -1);
        x.unlink(0, 'h');
        x.unlink(directory, 'g');
        x.build(0);
        Checks.same("a file in no entry has no inode", x.mount(), 2);
        Checks.same("the directory's inode moves", x.find(0, 'd'), 1);
        x.append(file, '!');
        x.link(file, 0, 'f');
        x.build(0);
        x.mount();
        Checks.sameText("the content stays", Images.data(x, 1), "hello!");
    }

    private static void linkWrong() {
        PackedImage x = new PackedImage();
        Images.file(x, 0, 'f', "");
        Images.link(x, 0, 'l', "f");
        Images.directory(x, 0, 'd');
        Checks.illegalArgument("a link", () -> linked(x, 2, 0, 'x'));
        Checks.illegalArgument("a directory", () -> linked(x, 3, 0, 'x'));
        Checks.illegalArgument("the root", () -> linked(x, 0, 0, 'x'));
        Checks.illegalArgument("no node", () -> linked(x, 4, 0, 'x'));
        Checks.illegalArgument("node -1", () -> linked(x, -1, 0, 'x'));
        Checks.illegalArgument("into a file", () -> linked(x, 1, 1, 'x'));
        Checks.illegalArgument("into no node", () -> linked(x, 1, 9, 'x'));
        Checks.illegalArgument("no letter", () -> linked(x, 1, 0, '0'));
        Checks.illegalArgument("a taken name", () -> linked(x, 1, 0, 'f'));
        Checks.sameText("a right one", linked(x, 1, 3, 'f'), "nothing");
        x.build(0);
        x.mount();
        Checks.same("the count", x.stat(1, 3), 2);
    }

    private static void unlinkWrong() {
        PackedImage x = new PackedImage();
        Images.file(x, 0, 'f', "");
        Images.link(x, 0, 'l', "f");
        Images.directory(x, 0, 'd');
        Checks.illegalArgument("a link", () -> unlinked(x, 0, 'l'));
        Checks.illegalArgument("a directory", () -> unlinked(x, 0, 'd'));
        Checks.illegalArgument("no entry", () -> unlinked(x, 0, 'x'));
        Checks.illegalArgument("no entry there", () -> unlinked(x, 3, 'f'));
        Checks.illegalArgument("no letter", () -> unlinked(x, 0, '{'));
        Checks.illegalArgument("of a file", () -> unlinked(x, 1, 'f'));
        Checks.illegalArgument("of no node", () -> unlinked(x, 4, 'f'));
        Checks.illegalArgument("of node -1", () -> unlinked(x, -1, 'f'));
        Checks.sameText("a right one", unlinked(x, 0, 'f'), "nothing");
        Checks.illegalArgument("the same again", () -> unlinked(x, 0, 'f'));
    }

    private static void append() {
        PackedImage x = new PackedImage();
        x.create(1, 0, 'f');
        x.create(2, 0, 'l');
        for (int size = 1; size <= 60; size++) {
            Checks.same("the file's size", x.append(1, size == 1 ? 0 : size == 2 ? 255 : size), size);
        }
        Checks.illegalState("a 61st byte", () -> x.append(1, 0));
        Checks.illegalArgument("a wrong byte comes first", () -> x.append(1, 256));
        for (int size = 1; size <= 4; size++) {
            Checks.same("the path's size", x.append(2, size % 2 == 0 ? 'a' : 'z'), size);
        }
        Checks.illegalState("a 5th letter", () -> x.append(2, 'a'));
        Checks.illegalArgument("a wrong letter comes first", () -> x.append(2, 'A'));
        x.build(0);
        x.mount();
        Checks.same("the first byte", x.read(1, 0), 0);
        Checks.same("the second byte", x.read(1, 1), 255);
        Checks.same("the last byte", x.read(1, 59), 60);
        Checks.sameText("the path", Images.data(x, 2), "zaza");
    }

    private static void appendWrong() {
        PackedImage x = new PackedImage();
        Images.file(x, 0, 'f', "");
        Images.link(x, 0, 'l', "");
        Images.directory(x, 0, 'd');
        Checks.illegalArgument("the root", () -> x.append(0, 'a'));
        Checks.illegalArgument("a directory", () -> x.append(3, 'a'));
        Checks.illegalArgument("no node", () -> x.append(4, 'a'));
        Checks.illegalArgument("node -1", () -> x.append(-1, 'a'));
        Checks.illegalArgument("byte -1", () -> x.append(1, -1));
        Checks.illegalArgument("byte 256", () -> x.append(1, 256));
        Checks.illegalArgument("a link's capital", () -> x.append(2, 'Z'));
        Checks.illegalArgument("a link's 0", () -> x.append(2, 0));
        Checks.illegalArgument("a link's letter and 256", () -> x.append(2, 256 + 'a'));
        Checks.same("nothing came of them", x.append(1, 1), 1);
        Checks.same("nor of those of the link", x.append(2, 'a'), 1);
    }

    private static void treeLeavesMountAlone() {
        PackedImage x = new PackedImage();
        Images.file(x, 0, 'f', "old");
        x.build(0);
        x.mount();
        Images.file(x, 0, 'g', "new");
        x.append(1, '!');
        x.link(1, 0, 'h');
        x.unlink(0, 'f');
        Checks.same("the size on the device", x.stat(1, 2), 3);
        Checks.same("the entry on the device", x.find(0, 'f'), 1);
    }

    private static String linked(PackedImage x, int file, int directory, char name) {
        x.link(file, directory, name);
        return "nothing";
    }

    private static String unlinked(PackedImage x, int directory, char name) {
        x.unlink(directory, name);
        return "nothing";
    }
}
