/** Short ways to fill trees, to spoil devices, and to show what is on them. */
final class Images {
    /** Bits 1 and 2 of an inode's byte 0. */
    static final int FILE = 1 << 1;
    static final int LINK = 2 << 1;
    static final int KIND_3 = 3 << 1;

    /** Bits 3 and 4, and bit 0 of it. */
    static final int TAILED = 1 << 3;
    static final int PACKED = 2 << 3;
    static final int LAYOUT_3 = 3 << 3;
    static final int LONG = 1;

    private Images() {
    }

    static int file(PackedImage x, int directory, char name, String content) {
        return filled(x, x.create(1, directory, name), content);
    }

    static int link(PackedImage x, int directory, char name, String path) {
        return filled(x, x.create(2, directory, name), path);
    }

    static int directory(PackedImage x, int directory, char name) {
        return x.create(0, directory, name);
    }

    private static int filled(PackedImage x, int node, String content) {
        for (int i = 0; i < content.length(); i++) {
            x.append(node, content.charAt(i));
        }
        return node;
    }

    /** A root with one file, f: its inode is 1 if the root's is short. */
    static PackedImage withFile(String content) {
        PackedImage x = new PackedImage();
        file(x, 0, 'f', content);
        return x;
    }

    /** The same, built and mounted. */
    static PackedImage mountedFile(String content, int flags) {
        PackedImage x = withFile(content);
        x.build(flags);
        x.mount();
        return x;
    }

    /** So many bytes, none of which is met again within 60 of them, so that nothing matches. */
    static String unlike(int size, int from) {
        StringBuilder text = new StringBuilder();
        for (int i = 0; i < size; i++) {
            text.append((char) (from + i));
        }
        return text.toString();
    }

    /** 60 bytes that are packed into three clusters: 0 .. 14, 15 .. 29 and 30 .. 59. */
    static String threeClusters() {
        return unlike(15, 20) + unlike(15, 40) + "a".repeat(30);
    }

    static int path(String letters) {
        int path = 0;
        for (int i = letters.length() - 1; i >= 0; i--) {
            path = path << 8 | letters.charAt(i);
        }
        return path;
    }

    static String bytes(PackedImage x, int from, int count) {
        StringBuilder text = new StringBuilder();
        for (int i = 0; i < count; i++) {
            text.append(i == 0 ? "" : " ").append(x.peek(from + i));
        }
        return text.toString();
    }

    static String block(PackedImage x, int number) {
        return bytes(x, number * 16, 16);
    }

    static String slot(PackedImage x, int number) {
        return bytes(x, 16 + number * 8, 8);
    }

    static String longSlot(PackedImage x, int number) {
        return bytes(x, 16 + number * 8, 16);
    }

    static String data(PackedImage x, int inode) {
        StringBuilder text = new StringBuilder();
        int size = x.stat(inode, 2);
        for (int i = 0; i < size; i++) {
            text.append((char) x.read(inode, i));
        }
        return text.toString();
    }

    /** Pokes a row of bytes. */
    static void lay(PackedImage x, int at, int... bytes) {
        for (int i = 0; i < bytes.length; i++) {
            x.poke(at + i, bytes[i]);
        }
    }

    /** An image by hand: block 0 with so many slots and used blocks, all else as it is. */
    static void header(PackedImage x, int slots, int used) {
        lay(x, 0, 225, 245, 0, slots, used);
        x.seal();
    }

    /** An image by hand, mounted: inode 0 of these bytes; slots 0 and 1 in block 1, blocks 2 .. 7 are used, too. */
    static PackedImage inode(int... bytes) {
        PackedImage x = new PackedImage();
        lay(x, 16, bytes);
        header(x, 2, 8);
        x.mount();
        return x;
    }

    /** An image by hand, mounted: inode 0 a directory of these entries in block 2 and behind it. */
    static PackedImage directoryOf(int... data) {
        PackedImage x = inode(0, data.length, 2);
        lay(x, 32, data);
        x.mount();
        return x;
    }

    /** An image by hand, mounted: inode 0 a file of one cluster, these bytes in block 2, and so many to be unpacked. */
    static PackedImage cluster(int size, int... bytes) {
        PackedImage x = new PackedImage();
        lay(x, 16, LONG | FILE | PACKED, size, 2, 1, 1, size);
        lay(x, 32, bytes);
        // What a token, a literal or D would find behind the block is right by itself.
        lay(x, 48, 1, 1, 1, 1, 1, 1, 1, 1, 1, 1, 1, 1, 1, 1, 1, 1);
        header(x, 2, 4);
        x.mount();
        return x;
    }
}
