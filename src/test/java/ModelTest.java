import java.util.Random;

/** All promises: random runs of calls, the same ones each time, answered as Model answers them. */
public final class ModelTest {
    private static final int RUNS = Integer.getInteger("runs", 1500);
    private static final String[] PIECES = {"aaaaaaaaaaaaaaaa", "same block here!", "abc", "ab", "xyzxyz", "q",
        "0123456789abcdef", "aab", "\0\0\0\0", "zyxwvutsrqponmlk"};

    private final Random random;
    private final PackedImage program = new PackedImage();
    private final Model model = new Model();
    private final int seed;
    private int nodes = 1;

    private ModelTest(int seed) {
        this.seed = seed;
        random = new Random(seed);
    }

    public static void main(String[] args) {
        for (int seed = 1; seed <= RUNS; seed++) {
            new ModelTest(seed).run();
        }
        Checks.end();
    }

    private void run() {
        int rounds = 1 + random.nextInt(4);
        for (int round = 0; round < rounds; round++) {
            grow(random.nextInt(20));
            build();
            int spoilings = random.nextInt(6);
            for (int i = 0; i <= spoilings; i++) {
                use(10 + random.nextInt(40));
                spoil();
            }
        }
    }

    private void both(String call, Checks.Call ofProgram, Checks.Call ofModel) {
        Checks.sameText("seed " + seed + ": " + call, Checks.outcome(ofProgram), Checks.outcome(ofModel));
    }

    private int some(int below) {
        return random.nextInt(40) == 0 ? random.nextInt() : random.nextInt(below + 1) - random.nextInt(50) / 49;
    }

    private char name() {
        int letter = 'a' + random.nextInt(random.nextBoolean() ? 6 : 26);
        return (char) (random.nextInt(30) == 0 ? random.nextInt(400) : letter);
    }

    private void grow(int steps) {
        for (int i = 0; i < steps; i++) {
            int a = some(nodes);
            char name = name();
            int directory = random.nextInt(3) == 0 ? some(nodes) : 0;
            switch (random.nextInt(6)) {
                case 0:
                case 1:
                    int kind = random.nextInt(3) == 0 ? some(2) : 1;
                    both("create(" + kind + ", " + directory + ", " + name + ")",
                            () -> program.create(kind, directory, name), () -> model.create(kind, directory, name));
                    nodes = Math.min(nodes + 1, 16);
                    break;
                case 2:
                    both("link(" + a + ", " + directory + ", " + name + ")", () -> {
                        program.link(a, directory, name);
                        return "";
                    }, () -> {
                        model.link(a, directory, name);
                        return "";
                    });
                    break;
                case 3:
                    both("unlink(" + directory + ", " + name + ")", () -> {
                        program.unlink(directory, name);
                        return "";
                    }, () -> {
                        model.unlink(directory, name);
                        return "";
                    });
                    break;
                default:
                    appendAll(a, content());
                    break;
            }
        }
    }

    private String content() {
        StringBuilder text = new StringBuilder();
        int pieces = random.nextInt(7);
        for (int i = 0; i < pieces; i++) {
            if (random.nextInt(4) == 0) {
                text.append((char) random.nextInt(random.nextBoolean() ? 256 : 3));
            } else {
                text.append(PIECES[random.nextInt(PIECES.length)]);
            }
        }
        return text.toString();
    }

    private void appendAll(int node, String content) {
        for (int i = 0; i < content.length(); i++) {
            int b = content.charAt(i);
            both("append(" + node + ", " + b + ")", () -> program.append(node, b), () -> model.append(node, b));
        }
        int b = some(256);
        both("append(" + node + ", " + b + ")", () -> program.append(node, b), () -> model.append(node, b));
    }

    private void build() {
        int flags = random.nextInt(20) == 0 ? some(9) : random.nextInt(8);
        both("build(" + flags + ")", () -> program.build(flags), () -> model.build(flags));
        both("all bytes after build(" + flags + ")", () -> Images.bytes(program, 0, 1024),
                () -> bytesOfModel(1024));
    }

    private String bytesOfModel(int count) {
        StringBuilder text = new StringBuilder();
        for (int at = 0; at < count; at++) {
            text.append(at == 0 ? "" : " ").append(model.peek(at));
        }
        return text.toString();
    }

    private void use(int steps) {
        if (random.nextInt(30) != 0) {
            both("mount()", () -> program.mount(), () -> model.mount());
        }
        for (int i = 0; i < steps; i++) {
            int inode = some(model.peek(3) + 1);
            int at = some(random.nextBoolean() ? 80 : 255);
            switch (random.nextInt(7)) {
                case 0:
                    int what = some(6);
                    both("stat(" + inode + ", " + what + ")", () -> program.stat(inode, what), () -> model.stat(inode, what));
                    break;
                case 1:
                case 2:
                    both("read(" + inode + ", " + at + ")", () -> program.read(inode, at), () -> model.read(inode, at));
                    break;
                case 3:
                    int directory = random.nextBoolean() ? 0 : inode;
                    char name = name();
                    both("find(" + directory + ", " + name + ")",
                            () -> program.find(directory, name), () -> model.find(directory, name));
                    break;
                case 4:
                    int path = path();
                    both("resolve(" + path + ")", () -> program.resolve(path), () -> model.resolve(path));
                    break;
                case 5:
                    both("check()", () -> program.check(), () -> model.check());
                    break;
                default:
                    both("cache(true)", () -> program.cache(true), () -> model.cache(true));
                    both("cache(false)", () -> program.cache(false), () -> model.cache(false));
                    break;
            }
        }
    }

    private int path() {
        int path = 0;
        int letters = random.nextInt(5);
        for (int i = 0; i < letters; i++) {
            path = path << 8 | name() & 255;
        }
        return random.nextInt(40) == 0 ? random.nextInt() : path;
    }

    private void spoil() {
        int pokes = 1 + random.nextInt(3);
        for (int i = 0; i < pokes; i++) {
            int slots = Math.max(1, model.peek(3));
            int at = place(slots);
            int flipped = model.peek(Math.floorMod(at, 1024)) ^ 1 << random.nextInt(8);
            int b = random.nextInt(3) == 0 ? flipped : some(random.nextInt(4) == 0 ? 400 : 24);
            both("poke(" + at + ", " + b + ")", () -> {
                program.poke(at, b);
                return "";
            }, () -> {
                model.poke(at, b);
                return "";
            });
        }
        if (random.nextInt(8) != 0) {
            program.seal();
            model.seal();
        }
        both("block 0", () -> Images.block(program, 0), () -> bytesOfModel(16));
    }

    /** Mostly in the slots and the first data behind them; seldom in block 0, which ends all. */
    private int place(int slots) {
        switch (random.nextInt(8)) {
            case 0:
                return random.nextInt(4) == 0 ? random.nextInt(16) : 3 + random.nextInt(2);
            case 1:
            case 2:
                return 16 + 8 * slots + random.nextInt(160);
            case 3:
                return some(1024);
            default:
                return 16 + 8 * random.nextInt(slots) + random.nextInt(random.nextBoolean() ? 3 : 8);
        }
    }
}
