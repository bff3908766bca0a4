/** Promise 6: what PACKING puts on the device. */
public final class PackTest {
    public static void main(String[] args) {
        run();
        fewerBlocksOnly();
        longestThenNearest();
        literalsBeforeMatch();
        matchWithoutRoom();
        literalsWithoutRoom();
        nothingWithoutRoom();
        clustersStandAlone();
        onlyFiles();
        packedBeforeTailed();
        onlyWithItsFlag();
        sharedClusters();
        Checks.end();
    }

    /** The only file beside the root: slots 0, 1 and 2; the root's data in block 3. */
    private static PackedImage packed(String content) {
        PackedImage x = new PackedImage();
        Images.file(x, 0, 'f', content);
        x.build(4);
        x.mount();
        Checks.sameText("the data of " + content, Images.data(x, 1), content);
        Checks.same("check of " + content, x.check(), -1);
        return x;
    }

    private static void run() {
        PackedImage x = packed("a".repeat(50) + "bcbcbcbcb");
        Checks.sameText("inode", Images.longSlot(x, 1), "19 59 4 1 1 59 0 0 0 0 0 0 0 0 0 0");
        Checks.sameText("cluster", Images.block(x, 4), "31 97 1 15 1 13 1 37 98 99 2 0 0 0 0 0");
        Checks.same("used", x.peek(4), 5);
    }

    private static void fewerBlocksOnly() {
        PackedImage one = packed("a".repeat(16));
        Checks.same("one cluster is not fewer than one block", one.stat(1, 1), 0);
        PackedImage two = packed("a".repeat(17));
        Checks.same("one cluster is fewer than two blocks", two.stat(1, 1), 2);
        PackedImage unlike = packed(Images.unlike(60, 20));
        Checks.same("what does not match is PLAIN", unlike.stat(1, 1), 0);
        PackedImage empty = packed("");
        Checks.same("an empty file is PLAIN", empty.stat(1, 1), 0);
        PackedImage three = packed(Images.unlike(15, 20) + Images.unlike(15, 40) + "a".repeat(30));
        Checks.same("three clusters are fewer than four blocks", three.stat(1, 1), 2);
        Checks.sameText("their inode", Images.longSlot(three, 1), "19 60 4 1 3 15 30 60 0 0 0 0 0 0 0 0");
    }

    private static void longestThenNearest() {
        PackedImage x = packed("abcdXabcYabcdZ" + "d".repeat(20));
        Checks.same("layout", x.stat(1, 1), 2);
        Checks.sameText("the longer one further back, then", Images.block(x, 4),
                "81 97 98 99 100 88 5 18 89 9 47 90 100 1 16 100");
        PackedImage y = packed("abcXabcYabc" + "c".repeat(22));
        Checks.sameText("of two alike the nearer one", Images.block(y, 4),
                "65 97 98 99 88 4 17 89 4 15 1 3 1 0 0 0");
    }

    private static void literalsBeforeMatch() {
        PackedImage x = packed("abab" + "ab".repeat(10));
        Checks.sameText("a match that overlaps", Images.block(x, 4), "47 97 98 2 3 2 0 0 0 0 0 0 0 0 0 0");
        PackedImage y = packed("aab" + "aab".repeat(2) + "q".repeat(18));
        Checks.sameText("two alike are no match", Images.block(y, 4), "52 97 97 98 3 31 113 1 0 0 0 0 0 0 0 0");
    }

    /** 13 bytes are taken by the first token: two literals and no D have room. */
    private static void matchWithoutRoom() {
        PackedImage x = packed("abcdefghijk" + "abc" + "XY" + "abc" + "Z".repeat(14));
        Checks.sameText("token and literals alone", Images.block(x, 4),
                "177 97 98 99 100 101 102 103 104 105 106 107 11 32 88 89");
        Checks.sameText("the match's bytes begin the next cluster", Images.bytes(x, 80, 8), "75 97 98 99 90 1 0 0");
        Checks.sameText("ends", Images.bytes(x, 28, 3), "2 16 33");
    }

    private static void literalsWithoutRoom() {
        PackedImage x = packed("abcdefghijk" + "abc" + "VWXY" + "Z".repeat(17));
        Checks.sameText("as many literals as have room", Images.block(x, 4),
                "177 97 98 99 100 101 102 103 104 105 106 107 11 32 86 87");
        Checks.sameText("the others", Images.bytes(x, 80, 7), "62 88 89 90 1 0 0");
    }

    /** 15 bytes are taken: a token has room, but nothing behind it. */
    private static void nothingWithoutRoom() {
        PackedImage x = packed("abcdefghijklm" + "abc" + "Z".repeat(17));
        Checks.sameText("no token alone", Images.block(x, 4),
                "209 97 98 99 100 101 102 103 104 105 106 107 108 109 13 0");
        PackedImage y = packed("abcdefghijklm" + "abc" + "fghijk" + "f".repeat(11));
        Checks.sameText("nor a match", Images.block(y, 4),
                "209 97 98 99 100 101 102 103 104 105 106 107 108 109 13 0");
        Checks.sameText("which is literals in the next cluster", Images.bytes(y, 80, 9),
                "120 102 103 104 105 106 107 102 1");
    }

    private static void clustersStandAlone() {
        String start = Images.unlike(15, 'A');
        PackedImage x = packed(start + start + "z".repeat(20));
        Checks.same("layout", x.stat(1, 1), 2);
        Checks.sameText("first cluster", Images.bytes(x, 64, 3), "240 65 66");
        Checks.sameText("the second does not match the first", Images.bytes(x, 80, 3), "240 65 66");
        Checks.sameText("ends", Images.bytes(x, 28, 4), "3 15 30 50");
    }

    private static void onlyFiles() {
        PackedImage x = new PackedImage();
        for (int i = 0; i < 12; i++) {
            Images.file(x, 0, (char) ('a' + i), "");
        }
        Images.link(x, 0, 'z', "aaaa");
        x.build(4);
        x.mount();
        Checks.same("a directory is not PACKED", x.stat(0, 1), 0);
        Checks.same("a link is not PACKED", x.stat(13, 1), 0);
    }

    private static void packedBeforeTailed() {
        PackedImage x = new PackedImage();
        Images.file(x, 0, 'f', "a".repeat(17));
        Images.file(x, 0, 'g', Images.unlike(17, 30));
        x.build(5);
        x.mount();
        Checks.same("PACKED", x.stat(x.find(0, 'f'), 1), 2);
        Checks.same("TAILED", x.stat(x.find(0, 'g'), 1), 1);
    }

    private static void onlyWithItsFlag() {
        PackedImage x = new PackedImage();
        Images.file(x, 0, 'f', "a".repeat(40));
        for (int flags = 0; flags < 8; flags++) {
            x.build(flags);
            x.mount();
            Checks.same("PACKED with flags " + flags, x.stat(1, 1) == 2 ? 1 : 0, flags / 4);
        }
    }

    private static void sharedClusters() {
        PackedImage x = new PackedImage();
        Images.file(x, 0, 'f', "b".repeat(40));
        Images.file(x, 0, 'g', "b".repeat(40));
        Images.file(x, 0, 'h', "\u001fb\u0001\u000f\u0001\u0003\u0001" + "\0".repeat(9));
        Checks.same("used", x.build(6), 1 + 3 + 1 + 1);
        x.mount();
        Checks.same("the same cluster", x.stat(3, 4), x.stat(1, 4));
        Checks.same("a PLAIN block like a cluster", x.stat(5, 4), x.stat(1, 4));
        Checks.sameText("data", Images.data(x, 3), "b".repeat(40));
    }
}
