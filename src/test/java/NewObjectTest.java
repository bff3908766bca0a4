/** Promise 1. */
public final class NewObjectTest {
    public static void main(String[] args) {
        PackedImage x = new PackedImage();
        for (int at = 0; at < 1024; at++) {
            Checks.same("byte " + at + " of a new object", x.peek(at), 0);
        }
        PackedImage y = new PackedImage();
        Checks.illegalState("check", () -> y.check());
        Checks.illegalState("stat", () -> y.stat(0, 0));
        Checks.illegalState("mount", () -> y.mount());
        Checks.same("hits", y.cache(true), 0);
        Checks.same("misses", y.cache(false), 0);
        Checks.illegalArgument("node 1", () -> y.create(1, 1, 'a'));
        Checks.illegalArgument("an entry of the root", () -> {
            y.unlink(0, 'a');
            return "nothing";
        });
        Checks.same("blocks of an empty root", y.build(0), 2);
        Checks.sameText("its inode", Images.slot(y, 0), "0 0 0 1 0 0 0 0");
        Checks.same("inodes", y.mount(), 1);
        PackedImage z = new PackedImage();
        Checks.same("another object's bytes", z.peek(0), 0);
        Checks.end();
    }
}
