/** To pack, and what PACKING puts on the device. */
public final class PackTest {
    public static void main(String[] args) {
        Checks.test("3 or more bytes: two alike are no match", PackTest::twoAlike);
        Checks.test("3 or more bytes: three alike are one", PackTest::threeAlike);
        Checks.test("3 or more bytes: two left at the end are none", PackTest::twoLeft);
        Checks.test("3 or more bytes: three left at the end are one", PackTest::threeLeft);
        Checks.test("at most 17", PackTest::longestMatch);
        Checks.test("at most 17: of several longer ones the least D", PackTest::longerOnes);
        Checks.test("the first one at which there is a match, though one behind it is longer", PackTest::firstMatch);
        Checks.test("D before it (1 or more): 1", PackTest::leastDistance);
        Checks.test("D before it (1 or more): the first byte of the cluster", PackTest::mostDistance);
        Checks.test("they may overlap", PackTest::overlap);
        Checks.test("of the same cluster's data", PackTest::sameCluster);
        Checks.test("of the same cluster's data: its first byte", PackTest::firstByteOfSecond);
        Checks.test("of several the longest one", PackTest::longest);
        Checks.test("then that with the least D", PackTest::nearest);
        Checks.test("literals, at most 15", PackTest::mostLiterals);
        Checks.test("literals, at most 15: a match behind them has no room for D", PackTest::mostLiteralsAndMatch);
        Checks.test("literals before the end", PackTest::literalsAtEnd);
        Checks.test("token, literals and D have room: just so", PackTest::justRoom);
        Checks.test("token and D have room: just so", PackTest::justRoomForMatch);
        Checks.test("else token and literals without the match: two", PackTest::twoWithoutMatch);
        Checks.test("else token and literals without the match: one", PackTest::oneWithoutMatch);
        Checks.test("and there is one at least: else nothing", PackTest::matchAloneWithoutRoom);
        Checks.test("else as many literals as have room: two", PackTest::twoOfMore);
        Checks.test("else as many literals as have room: one", PackTest::oneOfMore);
        Checks.test("if at least one has: else nothing", PackTest::noneOfMore);
        Checks.test("as many literals as have room, before the end: all", PackTest::allToTheEnd);
        Checks.test("as many literals as have room, before the end: all but one", PackTest::oneTooMany);
        Checks.test("as long as there are data and room: a full block", PackTest::fullBlock);
        Checks.test("what is behind the last token is 0", PackTest::zerosBehind);
        Checks.test("fewer than the blocks it would need PLAIN: 1 and 1", () -> layout("a".repeat(16), 0));
        Checks.test("fewer than the blocks it would need PLAIN: 1 and 2", () -> layout("a".repeat(17), 2));
        Checks.test("fewer than the blocks it would need PLAIN: 2 and 1", () -> layout(Images.unlike(16, 9), 0));
        Checks.test("fewer than the blocks it would need PLAIN: 2 and 2", () -> layout(two(17), 0));
        Checks.test("fewer than the blocks it would need PLAIN: 2 and 3", () -> layout(two(18), 2));
        Checks.test("fewer than the blocks it would need PLAIN: 3 and 3", () -> layout(three(18), 0));
        Checks.test("fewer than the blocks it would need PLAIN: 3 and 4", () -> layout(three(19), 2));
        Checks.test("fewer than the blocks it would need PLAIN: 4 and 4", () -> layout(Images.unlike(60, 9), 0));
        Checks.test("fewer than the blocks it would need PLAIN: 0 and 0", () -> layout("", 0));
        Checks.test("byte 0 of the rest: how many clusters, behind it where each ends", PackTest::ends);
        Checks.test("each cluster is one block, one behind the other", PackTest::blocks);
        Checks.test("PACKED (files, long)", PackTest::onlyFiles);
        Checks.test("a file with PACKING: without it none", PackTest::onlyWithItsFlag);
        Checks.test("PACKED, else, with TAILS, TAILED", PackTest::packedBeforeTailed);
        Checks.test("with SHARING clusters are shared, too", PackTest::sharedClusters);
        Checks.end();
    }

    /** The only file beside the root: slots 0, 1 and 2; the root's data in block 3, the clusters from 4 on. */
    private static PackedImage packed(String content) {
        PackedImage x = Images.mountedFile(content, 4);
        Checks.sameText("the data of " + content, Images.data(x, 1), content);
        Checks.same("check of " + content, x.check(), -1);
        return x;
    }

    private static void cluster(String content, String due) {
        PackedImage x = packed(content);
        Checks.same("clusters of " + content, x.peek(28), 1);
        Checks.sameText("the cluster of " + content, Images.block(x, 4), due);
    }

    /** What its first two clusters begin with. */
    private static void clusters(String content, String first, String second) {
        PackedImage x = packed(content);
        Checks.sameText("the first cluster of " + content, Images.block(x, 4), first);
        String begun = Images.block(x, 5);
        Checks.sameText("the second", begun.substring(0, Math.min(second.length(), begun.length())), second);
    }

    private static void twoAlike() {
        cluster("abXabY" + "z".repeat(21), "127 97 98 88 97 98 89 122 1 1 1 0 0 0 0 0");
    }

    private static void threeAlike() {
        cluster("abcXabcY" + "z".repeat(18), "65 97 98 99 88 4 47 89 122 1 0 0 0 0 0 0");
    }

    private static void twoLeft() {
        cluster("a".repeat(20), "31 97 1 32 97 97 0 0 0 0 0 0 0 0 0 0");
    }

    private static void threeLeft() {
        cluster("a".repeat(21), "31 97 1 1 1 0 0 0 0 0 0 0 0 0 0 0");
    }

    private static void longestMatch() {
        cluster("a".repeat(17), "30 97 1 0 0 0 0 0 0 0 0 0 0 0 0 0");
        cluster("a".repeat(18), "31 97 1 0 0 0 0 0 0 0 0 0 0 0 0 0");
        cluster("a".repeat(19), "31 97 1 16 97 0 0 0 0 0 0 0 0 0 0 0");
    }

    private static void longerOnes() {
        cluster("ab".repeat(20), "47 97 98 2 15 2 2 2 0 0 0 0 0 0 0 0");
    }

    private static void firstMatch() {
        cluster("abcXbcdefYabcdef" + "f".repeat(17), "161 97 98 99 88 98 99 100 101 102 89 10 1 7 15 1");
    }

    private static void leastDistance() {
        cluster("xyz" + "q".repeat(18), "79 120 121 122 113 1 0 0 0 0 0 0 0 0 0 0");
    }

    private static void mostDistance() {
        cluster("abcdefghij" + "abc" + "jjjj", "161 97 98 99 100 101 102 103 104 105 106 10 17 106 1 0");
    }

    private static void overlap() {
        cluster("ab".repeat(9), "46 97 98 2 0 0 0 0 0 0 0 0 0 0 0 0");
        cluster("aab" + "aab".repeat(2) + "q".repeat(18), "52 97 97 98 3 31 113 1 0 0 0 0 0 0 0 0");
    }

    private static void sameCluster() {
        String start = Images.unlike(15, 'A');
        PackedImage x = packed(start + start + "z".repeat(20));
        Checks.sameText("the first cluster", Images.block(x, 4), "240 65 66 67 68 69 70 71 72 73 74 75 76 77 78 79");
        Checks.sameText("the second", Images.block(x, 5), "240 65 66 67 68 69 70 71 72 73 74 75 76 77 78 79");
        Checks.sameText("the ends", Images.bytes(x, 28, 4), "3 15 30 50");
    }

    private static void firstByteOfSecond() {
        clusters(Images.unlike(15, 'A') + "xyzxyz" + "q".repeat(18),
                "240 65 66 67 68 69 70 71 72 73 74 75 76 77 78 79", "49 120 121 122 3 31 113 1 0 0 0 0 0 0 0 0");
    }

    private static void longest() {
        cluster("abcdXabcYabcdZ" + "d".repeat(19), "81 97 98 99 100 88 5 18 89 9 47 90 100 1 16 100");
    }

    private static void nearest() {
        cluster("abcXabcYabc" + "c".repeat(22), "65 97 98 99 88 4 17 89 4 15 1 3 1 0 0 0");
    }

    private static void mostLiterals() {
        clusters(three(30), "240 20 21 22 23 24 25 26 27 28 29 30 31 32 33 34", "240 40 41");
    }

    private static void mostLiteralsAndMatch() {
        clusters("abcdefghijklmno" + "abc" + "z".repeat(15),
                "240 97 98 99 100 101 102 103 104 105 106 107 108 109 110 111", "76 97 98 99 122 1 0");
    }

    private static void literalsAtEnd() {
        cluster("a".repeat(18) + "bcd", "31 97 1 48 98 99 100 0 0 0 0 0 0 0 0 0");
    }

    private static void justRoom() {
        cluster("abcdefghijklmn" + "abc", "225 97 98 99 100 101 102 103 104 105 106 107 108 109 110 14");
    }

    /** 14 bytes are taken by the first token. */
    private static void justRoomForMatch() {
        cluster("abcdefghijkl" + "abc" + "fgh", "193 97 98 99 100 101 102 103 104 105 106 107 108 12 1 10");
    }

    /** 13 bytes are taken by the first token: two literals and no D have room. */
    private static void twoWithoutMatch() {
        String content = "abcdefghijk" + "abc" + "XY" + "abc" + "Z".repeat(14);
        clusters(content, "177 97 98 99 100 101 102 103 104 105 106 107 11 32 88 89", "75 97 98 99 90 1 0 0");
        Checks.sameText("ends", Images.bytes(packed(content), 28, 3), "2 16 33");
    }

    private static void oneWithoutMatch() {
        clusters("abcdefghijkl" + "abc" + "X" + "abc" + "Z".repeat(14),
                "193 97 98 99 100 101 102 103 104 105 106 107 108 12 16 88", "75 97 98 99 90 1 0 0");
    }

    /** 15 bytes are taken: a token has room, but nothing behind it. */
    private static void matchAloneWithoutRoom() {
        clusters("abcdefghijklm" + "abc" + "fghijk" + "f".repeat(11),
                "209 97 98 99 100 101 102 103 104 105 106 107 108 109 13 0", "120 102 103 104 105 106 107 102 1 0");
    }

    private static void twoOfMore() {
        clusters("abcdefghijk" + "abc" + "VWXY" + "Z".repeat(17),
                "177 97 98 99 100 101 102 103 104 105 106 107 11 32 86 87", "62 88 89 90 1 0");
    }

    private static void oneOfMore() {
        clusters("abcdefghijkl" + "abc" + "VWXY" + "Z".repeat(17),
                "193 97 98 99 100 101 102 103 104 105 106 107 108 12 16 86", "78 87 88 89 90 1 0");
    }

    private static void noneOfMore() {
        clusters("abcdefghijklm" + "abc" + "Z".repeat(17),
                "209 97 98 99 100 101 102 103 104 105 106 107 108 109 13 0", "30 90 1 0");
    }

    /** 5 bytes are taken by two tokens: one more and 10 literals have room. */
    private static void allToTheEnd() {
        cluster("q".repeat(35) + "abcdefghij", "31 113 1 15 1 160 97 98 99 100 101 102 103 104 105 106");
    }

    private static void oneTooMany() {
        clusters("q".repeat(35) + "abcdefghijk", "31 113 1 15 1 160 97 98 99 100 101 102 103 104 105 106",
                "16 107 0 0 0 0 0 0 0 0 0 0 0 0 0 0");
        clusters("q".repeat(35) + "abcdefghijkl", "31 113 1 15 1 160 97 98 99 100 101 102 103 104 105 106",
                "32 107 108 0 0 0 0 0 0 0 0 0 0 0 0 0");
    }

    private static void fullBlock() {
        clusters("abcdefghijklmn" + "abc" + "z".repeat(18),
                "225 97 98 99 100 101 102 103 104 105 106 107 108 109 110 14", "31 122 1 0 0");
    }

    private static void zerosBehind() {
        PackedImage x = Images.withFile("a".repeat(18));
        for (int at = 64; at < 80; at++) {
            x.poke(at, 255);
        }
        x.build(4);
        Checks.sameText("the cluster", Images.block(x, 4), "31 97 1 0 0 0 0 0 0 0 0 0 0 0 0 0");
    }

    /** 15 bytes that are a cluster, and one that is another one. */
    private static String two(int run) {
        return Images.unlike(15, 20) + "a".repeat(run);
    }

    private static String three(int run) {
        return Images.unlike(15, 20) + Images.unlike(15, 40) + "a".repeat(run);
    }

    private static void layout(String content, int due) {
        Checks.same("the layout of " + content.length() + " bytes", packed(content).stat(1, 1), due);
    }

    private static void ends() {
        Checks.sameText("three clusters", Images.longSlot(packed(Images.threeClusters()), 1),
                "19 60 4 1 3 15 30 60 0 0 0 0 0 0 0 0");
        Checks.sameText("one cluster", Images.longSlot(packed("a".repeat(59)), 1),
                "19 59 4 1 1 59 0 0 0 0 0 0 0 0 0 0");
    }

    private static void blocks() {
        PackedImage x = packed(Images.threeClusters());
        Checks.same("used", x.peek(4), 7);
        Checks.sameText("the first", Images.bytes(x, 64, 2), "240 20");
        Checks.sameText("the second", Images.bytes(x, 80, 2), "240 40");
        Checks.sameText("the third", Images.block(x, 6), "31 97 1 10 1 0 0 0 0 0 0 0 0 0 0 0");
    }

    private static void onlyFiles() {
        PackedImage x = new PackedImage();
        for (int i = 0; i < 12; i++) {
            Images.file(x, 0, (char) ('a' + i), "");
        }
        Images.link(x, 0, 'z', "aaaa");
        x.build(4);
        x.mount();
        Checks.same("a directory is not PACKED", x.stat(0, 1), 0);
        Checks.same("a link is not PACKED", x.stat(13, 1), 0);
    }

    private static void onlyWithItsFlag() {
        PackedImage x = Images.withFile("a".repeat(40));
        for (int flags = 0; flags < 8; flags++) {
            x.build(flags);
            x.mount();
            Checks.same("PACKED with flags " + flags, x.stat(1, 1) == 2 ? 1 : 0, flags / 4);
        }
    }

    private static void packedBeforeTailed() {
        PackedImage x = Images.withFile("a".repeat(17));
        Images.file(x, 0, 'g', Images.unlike(17, 30));
        x.build(5);
        x.mount();
        Checks.same("PACKED", x.stat(x.find(0, 'f'), 1), 2);
        Checks.same("TAILED", x.stat(x.find(0, 'g'), 1), 1);
    }

    private static void sharedClusters() {
        PackedImage x = Images.withFile("b".repeat(40));
        Images.file(x, 0, 'g', "b".repeat(40));
        Images.file(x, 0, 'h', "\u001fb\u0001\u000f\u0001\u0003\u0001" + "\0".repeat(9));
        Checks.same("used", x.build(6), 1 + 3 + 1 + 1);
        x.mount();
        Checks.same("the same cluster", x.stat(3, 4), x.stat(1, 4));
        Checks.same("a PLAIN block like a cluster", x.stat(5, 4), x.stat(1, 4));
        Checks.sameText("data", Images.data(x, 3), "b".repeat(40));
    }
}
