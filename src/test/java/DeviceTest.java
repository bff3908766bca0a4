/** Promises 7 to 9. */
public final class DeviceTest {
    public static void main(String[] args) {
        peekAndPoke();
        wrongPlaces();
        seal();
        pokeUnmounts();
        Checks.end();
    }

    private static void peekAndPoke() {
        PackedImage x = new PackedImage();
        x.poke(0, 255);
        Checks.same("the first byte", x.peek(0), 255);
        x.poke(1023, 1);
        Checks.same("the last byte", x.peek(1023), 1);
        x.poke(7, 256 + 77);
        Checks.same("the lowest 8 bits", x.peek(7), 77);
        x.poke(8, -1);
        Checks.same("those of -1", x.peek(8), 255);
        x.poke(9, Integer.MIN_VALUE);
        Checks.same("those of the least int", x.peek(9), 0);
        Checks.same("a neighbour", x.peek(6), 0);
    }

    private static void wrongPlaces() {
        PackedImage x = new PackedImage();
        x.build(0);
        x.mount();
        Checks.outOfBounds("peek -1", () -> x.peek(-1));
        Checks.outOfBounds("peek 1024", () -> x.peek(1024));
        Checks.outOfBounds("peek at the edge of int", () -> x.peek(Integer.MIN_VALUE));
        Checks.outOfBounds("poke -1", () -> poked(x, -1));
        Checks.outOfBounds("poke 1024", () -> poked(x, 1024));
        Checks.outOfBounds("poke at the edge of int", () -> poked(x, Integer.MAX_VALUE));
        Checks.same("it is mounted still", x.stat(0, 0), 0);
        x.peek(3);
        Checks.same("after peek, too", x.stat(0, 0), 0);
    }

    private static String poked(PackedImage x, int at) {
        x.poke(at, 1);
        return "nothing";
    }

    private static void seal() {
        PackedImage x = new PackedImage();
        x.seal();
        Checks.sameText("the check of 14 times 0", Images.bytes(x, 14, 2), "169 106");
        Images.lay(x, 0, 27, 115);
        x.seal();
        Checks.sameText("a check that is 32768 on the way", Images.bytes(x, 14, 2), "167 252");
        Images.lay(x, 0, '1', '2', '3', '4', '5', '6', '7', '8', '9');
        x.poke(16, 4);
        x.seal();
        Checks.sameText("other bytes stay", Images.bytes(x, 0, 10), "49 50 51 52 53 54 55 56 57 0");
        Checks.same("those behind it, too", x.peek(16), 4);
        Checks.sameText("the check", Images.bytes(x, 14, 2), due(x));
        for (int at = 0; at < 14; at++) {
            x.poke(at, 255 - 3 * at);
        }
        Images.lay(x, 14, 1, 1);
        x.seal();
        Checks.sameText("the check anew", Images.bytes(x, 14, 2), due(x));
        x.build(0);
        x.mount();
        x.seal();
        Checks.illegalState("nothing is mounted after seal", () -> x.check());
        Checks.same("but it can be", x.mount(), 1);
    }

    /** The check by a division of polynomials, bit by bit, told otherwise than in the document. */
    private static String due(PackedImage x) {
        long rest = 0xFFFF;
        for (int bit = 0; bit < 14 * 8; bit++) {
            long next = x.peek(bit / 8) >> 7 - bit % 8 & 1;
            boolean over = (rest >> 15 & 1) != next;
            rest = rest << 1 & 0xFFFF;
            if (over) {
                rest ^= 0x1021;
            }
        }
        return (rest >> 8) + " " + (rest & 255);
    }

    private static void pokeUnmounts() {
        PackedImage x = new PackedImage();
        x.build(0);
        x.mount();
        x.poke(1000, 0);
        Checks.illegalState("nothing is mounted after poke", () -> x.stat(0, 0));
        Checks.illegalState("nor found", () -> x.find(0, 'a'));
    }
}
