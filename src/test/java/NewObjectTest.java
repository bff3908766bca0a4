/** Promise 1. */
public final class NewObjectTest {
    public static void main(String[] args) {
        Checks.test("All bytes 0", NewObjectTest::bytes);
        Checks.test("a tree of an empty root: one node", NewObjectTest::oneNode);
        Checks.test("a tree of an empty root: no entries", NewObjectTest::noEntries);
        Checks.test("nothing is mounted", NewObjectTest::notMounted);
        Checks.test("an object's state is its own", NewObjectTest::own);
        Checks.test("an object is used for at most 512 calls", NewObjectTest::lastCall);
        Checks.end();
    }

    private static void bytes() {
        for (int from = 0; from < 1024; from += 512) {
            PackedImage x = new PackedImage();
            for (int at = from; at < from + 512; at++) {
                Checks.same("byte " + at, x.peek(at), 0);
            }
        }
    }

    private static void oneNode() {
        PackedImage x = new PackedImage();
        Checks.illegalArgument("node 1 is no directory", () -> x.create(1, 1, 'a'));
        Checks.illegalArgument("node 1 is no file", Checks.of(() -> x.link(1, 0, 'a')));
        Checks.illegalArgument("node 0 is no file", Checks.of(() -> x.link(0, 0, 'a')));
        Checks.illegalArgument("node 1 has no content", () -> x.append(1, 'a'));
        Checks.same("node 0 is a directory, a new node is 1", x.create(1, 0, 'a'), 1);
    }

    private static void noEntries() {
        PackedImage x = new PackedImage();
        for (char name = 'a'; name <= 'z'; name++) {
            char letter = name;
            Checks.illegalArgument("entry " + name, Checks.of(() -> x.unlink(0, letter)));
        }
        Checks.same("blocks", x.build(0), 2);
        Checks.sameText("the root's inode", Images.slot(x, 0), "0 0 0 1 0 0 0 0");
        Checks.same("inodes", x.mount(), 1);
    }

    private static void notMounted() {
        PackedImage x = new PackedImage();
        Checks.illegalState("stat", () -> x.stat(0, 0));
        Checks.illegalState("read", () -> x.read(0, 0));
        Checks.illegalState("find", () -> x.find(0, 'a'));
        Checks.illegalState("resolve", () -> x.resolve(0));
        Checks.illegalState("check", () -> x.check());
        Checks.same("hits", x.cache(true), 0);
        Checks.same("misses", x.cache(false), 0);
        Checks.illegalState("mount of bytes 0", () -> x.mount());
    }

    private static void own() {
        PackedImage x = Images.mountedFile("a".repeat(40), 4);
        x.read(1, 0);
        PackedImage y = new PackedImage();
        Checks.same("another object's byte", y.peek(0), 0);
        Checks.same("another object's misses", y.cache(false), 0);
        Checks.same("another object's next node", y.create(0, 0, 'f'), 1);
        Checks.same("the first one's kind", x.stat(1, 0), 1);
        Checks.same("the first one's misses", x.cache(false), 1);
    }

    /** 43 calls, then 467 reads of one cluster, then the last two. */
    private static void lastCall() {
        PackedImage x = new PackedImage();
        x.create(1, 0, 'f');
        for (int i = 0; i < 40; i++) {
            x.append(1, 'a');
        }
        x.build(4);
        x.mount();
        for (int call = 44; call <= 510; call++) {
            x.read(1, call % 40);
        }
        Checks.same("the 511th call", x.cache(true), 466);
        Checks.same("the 512th call", x.read(1, 39), 'a');
    }
}
