import java.util.ArrayList;
import java.util.List;
import java.util.Random;

/** All promises: random runs of at most 512 calls, the same ones each time, answered as Model answers them. */
public final class ModelTest {
    private static final int RUNS = Integer.getInteger("runs", 2500);
    private static final int MOST_CALLS = 512;
    private static final String[] PIECES = {"aaaaaaaaaaaaaaaa", "same block here!", "abc", "ab", "xyzxyz", "q",
        "0123456789abcdef", "aab", "\0\0\0\0", "zyxwvutsrqponmlk"};

    private final Random random;
    private final PackedImage program = new PackedImage();
    private final Model model = new Model();
    private final int seed;
    private final List<Integer> kinds = new ArrayList<>(List.of(0));
    private final int letters;
    private int calls = 0;

    private ModelTest(int seed) {
        this.seed = seed;
        random = new Random(seed);
        letters = random.nextBoolean() ? 5 : 26;
    }

    public static void main(String[] args) {
        for (int seed = 1; seed <= RUNS; seed++) {
            new ModelTest(seed).run();
        }
        Checks.end();
    }

    private void run() {
        if (random.nextInt(10) == 0) {
            widen();
        }
        for (int round = 0; round < 4 && calls < MOST_CALLS; round++) {
            grow(random.nextInt(20));
            build();
            int spoilings = random.nextInt(6);
            for (int i = 0; i <= spoilings; i++) {
                use(6 + random.nextInt(20));
                spoil();
            }
        }
    }

    /** What an object answers behind its last call is free. */
    private String both(String call, Checks.Call ofProgram, Checks.Call ofModel) {
        if (calls == MOST_CALLS) {
            return "throws nothing, since it is not made";
        }
        calls++;
        String due = Checks.outcome(ofModel);
        Checks.sameText("seed " + seed + ", call " + calls + ": " + call, Checks.outcome(ofProgram), due);
        return due;
    }

    private boolean seldom() {
        return random.nextInt(25) == 0;
    }

    /** 0 .. most, seldom -1, one more, or anything. */
    private int some(int most) {
        if (seldom()) {
            return List.of(-1, most + 1, random.nextInt()).get(random.nextInt(3));
        }
        return random.nextInt(most + 1);
    }

    private char name() {
        return (char) (seldom() ? random.nextInt(400) : 'a' + random.nextInt(letters));
    }

    private int nodeOf(int kind) {
        List<Integer> fitting = new ArrayList<>();
        for (int node = 0; node < kinds.size(); node++) {
            if (kinds.get(node) == kind) {
                fitting.add(node);
            }
        }
        return fitting.isEmpty() || seldom() ? some(kinds.size()) : fitting.get(random.nextInt(fitting.size()));
    }

    /** Directories with many entries are what takes the most blocks for the fewest calls. */
    private void widen() {
        create(1, 0, 'z');
        int directories = 8 + random.nextInt(6);
        for (int i = 0; i < directories; i++) {
            create(0, 0, (char) ('a' + i));
            int entries = 15 + random.nextInt(12);
            int shift = random.nextInt(3);
            for (int entry = 0; entry < entries; entry++) {
                link(1, kinds.size() - 1, (char) ('a' + (entry + shift) % 26));
            }
        }
    }

    private void grow(int steps) {
        for (int i = 0; i < steps; i++) {
            switch (random.nextInt(8)) {
                case 0:
                case 1:
                case 2:
                    create(some(2), nodeOf(0), name());
                    break;
                case 3:
                    link(nodeOf(1), nodeOf(0), name());
                    break;
                case 4:
                    unlink(nodeOf(0), name());
                    break;
                case 5:
                    appendAll(nodeOf(2), path(1 + random.nextInt(3)));
                    break;
                default:
                    appendAll(nodeOf(1), content());
                    break;
            }
        }
    }

    private void create(int kind, int directory, char name) {
        String made = both("create(" + kind + ", " + directory + ", " + (int) name + ")",
                () -> program.create(kind, directory, name), () -> model.create(kind, directory, name));
        if (!made.startsWith("throws")) {
            kinds.add(kind);
        }
    }

    private void link(int file, int directory, char name) {
        both("link(" + file + ", " + directory + ", " + (int) name + ")",
                Checks.of(() -> program.link(file, directory, name)),
                Checks.of(() -> model.link(file, directory, name)));
    }

    private void unlink(int directory, char name) {
        both("unlink(" + directory + ", " + (int) name + ")",
                Checks.of(() -> program.unlink(directory, name)), Checks.of(() -> model.unlink(directory, name)));
    }

    private String content() {
        StringBuilder text = new StringBuilder();
        int pieces = random.nextInt(8);
        for (int i = 0; i < pieces; i++) {
            switch (random.nextInt(6)) {
                case 0:
                    text.append((char) random.nextInt(256));
                    break;
                case 1:
                    text.append((char) random.nextInt(3));
                    break;
                case 2:
                    text.append(Images.unlike(random.nextInt(16), random.nextInt(200)));
                    break;
                default:
                    text.append(PIECES[random.nextInt(PIECES.length)]);
                    break;
            }
        }
        return text.toString();
    }

    private String path(int size) {
        StringBuilder text = new StringBuilder();
        for (int i = 0; i < size; i++) {
            text.append(name());
        }
        return text.toString();
    }

    private void appendAll(int node, String content) {
        for (int i = 0; i < content.length(); i++) {
            String made = append(node, content.charAt(i));
            if (made.startsWith("throws")) {
                return;
            }
        }
        if (seldom()) {
            append(node, some(255));
        }
    }

    private String append(int node, int b) {
        return both("append(" + node + ", " + b + ")", () -> program.append(node, b), () -> model.append(node, b));
    }

    private void build() {
        int flags = some(7);
        both("build(" + flags + ")", () -> program.build(flags), () -> model.build(flags));
        if (random.nextInt(8) == 0) {
            look(random.nextInt(1024), MOST_CALLS);
        } else {
            look(14, 2 + random.nextInt(40));
            look(random.nextInt(16 * Math.max(1, model.peek(4))), 10);
        }
    }

    private void look(int from, int count) {
        for (int i = 0; i < count && calls < MOST_CALLS; i++) {
            int at = (from + i) % 1024;
            both("peek(" + at + ")", () -> program.peek(at), () -> model.peek(at));
        }
    }

    /** An inode of that kind and layout, if a few tries find one. */
    private int inodeWith(int what, int due) {
        for (int i = 0; i < 30; i++) {
            int inode = random.nextInt(model.peek(3) + 1);
            if (Checks.outcome(() -> model.stat(inode, what)).equals(String.valueOf(due))) {
                return inode;
            }
        }
        return some(model.peek(3));
    }

    private void use(int steps) {
        if (!seldom()) {
            both("mount()", () -> program.mount(), () -> model.mount());
        }
        for (int i = 0; i < steps; i++) {
            switch (random.nextInt(8)) {
                case 0:
                    int inode = some(model.peek(3));
                    int what = some(5);
                    both("stat(" + inode + ", " + what + ")",
                            () -> program.stat(inode, what), () -> model.stat(inode, what));
                    break;
                case 1:
                    read(inodeWith(5, 0));
                    break;
                case 2:
                case 3:
                    read(inodeWith(1, 2));
                    break;
                case 4:
                    int directory = inodeWith(0, 0);
                    char name = name();
                    both("find(" + directory + ", " + (int) name + ")",
                            () -> program.find(directory, name), () -> model.find(directory, name));
                    break;
                case 5:
                    int path = seldom() ? random.nextInt() : Images.path(path(random.nextInt(5)));
                    both("resolve(" + path + ")", () -> program.resolve(path), () -> model.resolve(path));
                    break;
                case 6:
                    both("check()", () -> program.check(), () -> model.check());
                    break;
                default:
                    both("cache(true)", () -> program.cache(true), () -> model.cache(true));
                    both("cache(false)", () -> program.cache(false), () -> model.cache(false));
                    break;
            }
        }
    }

    private void read(int inode) {
        String size = Checks.outcome(() -> model.stat(inode, 2));
        int at = size.startsWith("throws") || size.equals("0") ? some(255) : some(Integer.parseInt(size) - 1);
        both("read(" + inode + ", " + at + ")", () -> program.read(inode, at), () -> model.read(inode, at));
    }

    private void spoil() {
        int pokes = 1 + random.nextInt(3);
        for (int i = 0; i < pokes; i++) {
            int at = place(Math.max(1, model.peek(3)));
            int flipped = model.peek(Math.floorMod(at, 1024)) ^ 1 << random.nextInt(8);
            int b = random.nextInt(3) == 0 ? flipped : some(random.nextInt(4) == 0 ? 400 : 24);
            both("poke(" + at + ", " + b + ")",
                    Checks.of(() -> program.poke(at, b)), Checks.of(() -> model.poke(at, b)));
        }
        if (random.nextInt(8) != 0) {
            both("seal()", Checks.of(() -> program.seal()), Checks.of(() -> model.seal()));
            look(14, 2);
        }
    }

    /** Mostly in the slots and the data behind them; seldom in block 0, where most of it ends all. */
    private int place(int slots) {
        switch (random.nextInt(8)) {
            case 0:
                return random.nextInt(8) == 0 ? random.nextInt(16) : 3 + random.nextInt(2);
            case 1:
            case 2:
            case 3:
                return 16 + 8 * slots + random.nextInt(320);
            case 4:
                return some(1023);
            default:
                return 16 + 8 * random.nextInt(slots) + random.nextInt(random.nextBoolean() ? 3 : 8);
        }
    }
}
