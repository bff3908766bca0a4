/** Short ways to fill trees, and to show what is on a device. */
final class Images {
    private Images() {
    }

    static int file(PackedImage x, int directory, char name, String content) {
        return filled(x, x.create(1, directory, name), content);
    }

    static int link(PackedImage x, int directory, char name, String path) {
        return filled(x, x.create(2, directory, name), path);
    }

    static int directory(PackedImage x, int directory, char name) {
        return x.create(0, directory, name);
    }

    private static int filled(PackedImage x, int node, String content) {
        for (int i = 0; i < content.length(); i++) {
            x.append(node, content.charAt(i));
        }
        return node;
    }

    /** So many bytes, none of which is met again within 60 of them, so that nothing matches. */
    static String unlike(int size, int from) {
        StringBuilder text = new StringBuilder();
        for (int i = 0; i < size; i++) {
            text.append((char) (from + i));
        }
        return text.toString();
    }

    static String bytes(PackedImage x, int from, int count) {
        StringBuilder text = new StringBuilder();
        for (int i = 0; i < count; i++) {
            text.append(i == 0 ? "" : " ").append(x.peek(from + i));
        }
        return text.toString();
    }

    static String block(PackedImage x, int number) {
        return bytes(x, number * 16, 16);
    }

    static String slot(PackedImage x, int number) {
        return bytes(x, 16 + number * 8, 8);
    }

    static String longSlot(PackedImage x, int number) {
        return bytes(x, 16 + number * 8, 16);
    }

    static String data(PackedImage x, int inode) {
        StringBuilder text = new StringBuilder();
        for (int i = 0; i < x.stat(inode, 2); i++) {
            text.append((char) x.read(inode, i));
        }
        return text.toString();
    }

    /** Pokes a row of bytes. */
    static void lay(PackedImage x, int at, int... bytes) {
        for (int i = 0; i < bytes.length; i++) {
            x.poke(at + i, bytes[i]);
        }
    }

    /** An image by hand: block 0 with so many slots and used blocks, all else as it is. */
    static void header(PackedImage x, int slots, int used) {
        lay(x, 0, 225, 245, 0, slots, used);
        x.seal();
    }
}
