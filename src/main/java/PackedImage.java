import java.util.Arrays;

/** Builds read-only images of small trees of files on a device of 64 blocks, and reads such images. */
public final class PackedImage {
    private static final int NONE = -1;

    private static final int DEVICE_SIZE = 1024;
    private static final int BLOCK_SIZE = 16;
    private static final int MOST_BLOCKS = 64;
    private static final int SLOT_SIZE = 8;
    private static final int FIRST_SLOT_AT = 16;
    private static final int MOST_SLOTS = 126;

    private static final int DIRECTORY = 0;
    private static final int FILE = 1;
    private static final int LINK = 2;
    private static final int WRONG_KIND = 3;

    private static final int PLAIN = 0;
    private static final int TAILED = 1;
    private static final int PACKED = 2;
    private static final int WRONG_LAYOUT = 3;

    private static final int TAILS = 1;
    private static final int SHARING = 2;
    private static final int PACKING = 4;
    private static final int MOST_FLAGS = 7;

    private static final int ROOT = 0;
    private static final int MOST_NODES = 16;
    private static final int LETTERS = 26;
    private static final int MOST_CONTENT = 60;
    private static final int MOST_PATH = 4;
    private static final int MOST_LINKS = 4;
    private static final int ENTRY_SIZE = 3;

    private static final int MAGIC_0 = 225;
    private static final int MAGIC_1 = 245;
    private static final int FLAGS_AT = 2;
    private static final int SLOTS_AT = 3;
    private static final int USED_AT = 4;
    private static final int CHECK_AT = 14;

    private static final int REST_AT = 4;
    private static final int SHORT_REST = 4;
    private static final int LONG_REST = 12;
    private static final int MOST_CLUSTERS = 11;
    private static final int MOST_SIZE = 255;

    private final Tree tree;
    private final Builder builder;
    private final Device device;
    private final Cache kept;
    private final int[] ahead;
    private int lettersAhead;

    public PackedImage() {
        tree = new Tree();
        builder = new Builder();
        device = new Device();
        kept = new Cache();
        // Each link that is followed puts its own letters before those that are left.
        ahead = new int[MOST_PATH + MOST_LINKS * MOST_PATH];
        lettersAhead = 0;
    }

    public int create(int kind, int directory, char name) throws IllegalArgumentException, IllegalStateException {
        if (kind < DIRECTORY || kind > LINK) {
            throw new IllegalArgumentException();
        }
        demandFreeName(directory, name);
        if (tree.isFull()) {
            throw new IllegalStateException();
        }
        int node = tree.newNode(kind);
        tree.enter(directory, name - 'a', node);
        return node;
    }

    public void link(int file, int directory, char name) throws IllegalArgumentException {
        if (!tree.isNodeOf(file, FILE)) {
            throw new IllegalArgumentException();
        }
        demandFreeName(directory, name);
        tree.enter(directory, name - 'a', file);
    }

    public void unlink(int directory, char name) throws IllegalArgumentException {
        demandDirectoryAndLetter(directory, name);
        if (!tree.isNodeOf(tree.nodeAt(directory, name - 'a'), FILE)) {
            throw new IllegalArgumentException();
        }
        tree.leave(directory, name - 'a');
    }

    public int append(int node, int b) throws IllegalArgumentException, IllegalStateException {
        boolean toFile = tree.isNodeOf(node, FILE) && b >= 0 && b <= 255;
        boolean toLink = tree.isNodeOf(node, LINK) && isLetter(b);
        if (!toFile && !toLink) {
            throw new IllegalArgumentException();
        }
        if (tree.contentSize(node) >= (toFile ? MOST_CONTENT : MOST_PATH)) {
            throw new IllegalStateException();
        }
        return tree.extend(node, b);
    }

    public int build(int flags) throws IllegalArgumentException, UnsupportedOperationException {
        if (flags < 0 || flags > MOST_FLAGS) {
            throw new IllegalArgumentException();
        }
        builder.giveSlots(tree, flags);
        if (!builder.layOut(tree, flags)) {
            throw new UnsupportedOperationException();
        }
        device.takeOver(builder.image);
        return builder.used;
    }

    public int peek(int at) throws IndexOutOfBoundsException {
        demandPlace(at);
        return device.byteAt(at);
    }

    public void poke(int at, int b) throws IndexOutOfBoundsException {
        demandPlace(at);
        device.put(at, b & 255);
    }

    public void seal() {
        device.renewCheck();
    }

    public int mount() throws IllegalStateException {
        kept.empty();
        if (!device.open()) {
            throw new IllegalStateException();
        }
        return device.inodes;
    }

    public int stat(int inode, int what)
            throws IllegalStateException, IndexOutOfBoundsException, IllegalArgumentException {
        demandInode(inode);
        switch (what) {
            case 0:
                return device.kindOf(inode);
            case 1:
                return device.layoutOf(inode);
            case 2:
                return device.sizeOf(inode);
            case 3:
                return device.countOf(inode);
            case 4:
                return device.firstBlockOf(inode);
            case 5:
                return device.isBad(inode) ? 1 : 0;
            default:
                throw new IllegalArgumentException();
        }
    }

    public int read(int inode, int at) throws IllegalStateException, IndexOutOfBoundsException {
        demandInode(inode);
        demandGood(inode);
        if (at < 0 || at >= device.sizeOf(inode)) {
            throw new IndexOutOfBoundsException();
        }
        if (device.layoutOf(inode) != PACKED) {
            return device.dataAt(inode, at);
        }
        int found = packedByte(inode, at);
        if (found == NONE) {
            throw new IllegalStateException();
        }
        return found;
    }

    public int find(int directory, char name)
            throws IllegalStateException, IndexOutOfBoundsException, IllegalArgumentException {
        demandInode(directory);
        if (device.kindOf(directory) != DIRECTORY) {
            throw new IllegalArgumentException();
        }
        demandGood(directory);
        return device.lookUp(directory, name);
    }

    public int resolve(int path) throws IllegalStateException {
        demandMounted();
        demandGood(ROOT);
        layAhead(path);
        int here = ROOT;
        int followed = 0;
        for (int step = 0; step < ahead.length && lettersAhead > 0; step++) {
            if (device.kindOf(here) != DIRECTORY) {
                return NONE;
            }
            here = device.lookUp(here, nextLetter());
            if (here == NONE) {
                return NONE;
            }
            demandGood(here);
            if (device.kindOf(here) == LINK) {
                if (followed == MOST_LINKS || device.sizeOf(here) > MOST_PATH) {
                    return NONE;
                }
                followed++;
                layLinkAhead(here);
                here = ROOT;
            }
        }
        return here;
    }

    public int cache(boolean hits) {
        if (!device.mounted) {
            return 0;
        }
        return hits ? kept.hits : kept.misses;
    }

    public int check() throws IllegalStateException {
        demandMounted();
        for (int inode = 0; inode < MOST_SLOTS; inode++) {
            if (device.isInode(inode) && isWrong(inode)) {
                return inode;
            }
        }
        return NONE;
    }

    private void demandDirectoryAndLetter(int directory, char name) {
        if (!tree.isNodeOf(directory, DIRECTORY) || !isLetter(name)) {
            throw new IllegalArgumentException();
        }
    }

    private void demandFreeName(int directory, char name) {
        demandDirectoryAndLetter(directory, name);
        if (tree.nodeAt(directory, name - 'a') != NONE) {
            throw new IllegalArgumentException();
        }
    }

    private void demandPlace(int at) {
        if (at < 0 || at >= DEVICE_SIZE) {
            throw new IndexOutOfBoundsException();
        }
    }

    private void demandMounted() {
        if (!device.mounted) {
            throw new IllegalStateException();
        }
    }

    private void demandInode(int inode) {
        demandMounted();
        if (!device.isInode(inode)) {
            throw new IndexOutOfBoundsException();
        }
    }

    private void demandGood(int inode) {
        if (!device.isInode(inode) || device.isBad(inode)) {
            throw new IllegalStateException();
        }
    }

    private int packedByte(int inode, int at) {
        int number = device.clusterWith(inode, at);
        if (!kept.holds(inode, number)) {
            if (!device.unpack(inode, number, kept.spare)) {
                return NONE;
            }
            kept.keepSpare(inode, number);
        }
        return kept.newest.dataAt(at - device.clusterStart(inode, number));
    }

    private boolean isWrong(int inode) {
        if (device.isBad(inode)) {
            return true;
        }
        if (device.layoutOf(inode) == PACKED) {
            return hasBadCluster(inode);
        }
        return device.kindOf(inode) == DIRECTORY && device.hasWrongEntry(inode);
    }

    private boolean hasBadCluster(int inode) {
        for (int number = 0; number < device.blocksOf(inode); number++) {
            // Nothing is kept in the spare cluster, so the cache does not notice.
            if (!device.unpack(inode, number, kept.spare)) {
                return true;
            }
        }
        return false;
    }

    private void layAhead(int path) {
        int letters = 0;
        while (letters < MOST_PATH && letterOf(path, letters) != 0) {
            letters++;
        }
        lettersAhead = 0;
        for (int i = letters - 1; i >= 0; i--) {
            layLetterAhead(letterOf(path, i));
        }
    }

    private void layLinkAhead(int inode) {
        for (int i = device.sizeOf(inode) - 1; i >= 0; i--) {
            layLetterAhead(device.dataAt(inode, i));
        }
    }

    private void layLetterAhead(int letter) {
        if (lettersAhead < ahead.length) {
            ahead[lettersAhead] = letter;
            lettersAhead++;
        }
    }

    private int nextLetter() {
        if (lettersAhead <= 0) {
            return 0;
        }
        lettersAhead--;
        return ahead[lettersAhead];
    }

    private static int letterOf(int path, int number) {
        return path >>> (8 * number) & 255;
    }

    private static boolean isLetter(int b) {
        return b >= 'a' && b <= 'z';
    }

    private static int blocksFor(int size) {
        return (size + BLOCK_SIZE - 1) / BLOCK_SIZE;
    }

    private static int firstBlockBehind(int slots) {
        return blocksFor(FIRST_SLOT_AT + slots * SLOT_SIZE);
    }

    private static int headerCheck(int[] bytes) {
        int check = 65535;
        for (int i = 0; i < CHECK_AT; i++) {
            check ^= bytes[i] << 8;
            for (int bit = 0; bit < 8; bit++) {
                check = (check << 1 ^ (check >= 32768 ? 4129 : 0)) & 65535;
            }
        }
        return check;
    }

    private static void putHeaderCheck(int[] bytes) {
        int check = headerCheck(bytes);
        bytes[CHECK_AT] = check >> 8;
        bytes[CHECK_AT + 1] = check & 255;
    }

    /** The nodes that images are built from. */
    private static final class Tree {
        private final int[] kinds;
        private final int[] counts;
        private final int[] sizes;
        private final int[] contents;
        private final int[] entries;
        private int nodes;

        Tree() {
            kinds = new int[MOST_NODES];
            counts = new int[MOST_NODES];
            sizes = new int[MOST_NODES];
            contents = new int[MOST_NODES * MOST_CONTENT];
            entries = new int[MOST_NODES * LETTERS];
            Arrays.fill(entries, NONE);
            counts[ROOT] = 1;
            nodes = 1;
        }

        boolean isFull() {
            return nodes >= MOST_NODES;
        }

        boolean isNodeOf(int node, int kind) {
            return node >= 0 && node < nodes && kinds[node] == kind;
        }

        int kindOf(int node) {
            return kinds[node];
        }

        int countOf(int node) {
            return counts[node];
        }

        int contentSize(int node) {
            return sizes[node];
        }

        int nodeAt(int directory, int letter) {
            return entries[directory * LETTERS + letter];
        }

        int newNode(int kind) {
            int node = nodes;
            kinds[node] = kind;
            nodes++;
            return node;
        }

        void enter(int directory, int letter, int node) {
            entries[directory * LETTERS + letter] = node;
            counts[node]++;
        }

        void leave(int directory, int letter) {
            counts[nodeAt(directory, letter)]--;
            entries[directory * LETTERS + letter] = NONE;
        }

        int extend(int node, int b) {
            contents[node * MOST_CONTENT + sizes[node]] = b;
            sizes[node]++;
            return sizes[node];
        }

        int dataSize(int node) {
            if (kinds[node] != DIRECTORY) {
                return sizes[node];
            }
            int size = 0;
            for (int letter = 0; letter < LETTERS; letter++) {
                if (nodeAt(node, letter) != NONE) {
                    size += ENTRY_SIZE;
                }
            }
            return size;
        }

        void copyContent(int node, int[] row) {
            System.arraycopy(contents, node * MOST_CONTENT, row, 0, sizes[node]);
        }
    }

    /** Packs a file's content into clusters. */
    private static final class Packer {
        private static final int MOST_LITERALS = 15;
        private static final int LEAST_MATCH = 3;
        private static final int MOST_MATCH = 17;

        private final int[] data;
        private final int[] blocks;
        private final int[] ends;
        private int size;
        private int clusters;
        private int clusterFrom;
        private int next;
        private int filled;
        private int distance;

        Packer() {
            data = new int[MOST_CONTENT];
            blocks = new int[MOST_CLUSTERS * BLOCK_SIZE];
            ends = new int[MOST_CLUSTERS];
        }

        /** Answers whether the content of a file fits into the clusters that an inode can have. */
        boolean packContent(Tree tree, int node) {
            tree.copyContent(node, data);
            size = tree.contentSize(node);
            Arrays.fill(blocks, 0);
            next = 0;
            for (clusters = 0; clusters < MOST_CLUSTERS && next < size; clusters++) {
                packCluster();
                ends[clusters] = next;
            }
            return next >= size;
        }

        private void packCluster() {
            clusterFrom = next;
            filled = 0;
            boolean goesOn = true;
            for (int token = 0; token < BLOCK_SIZE && goesOn; token++) {
                goesOn = putNext() && next < size && filled < BLOCK_SIZE;
            }
        }

        /** Answers whether all that was to be put had room. */
        private boolean putNext() {
            int literals = 0;
            int match = matchAt(next);
            while (match == 0 && literals < MOST_LITERALS && next + literals < size) {
                literals++;
                match = matchAt(next + literals);
            }
            int room = BLOCK_SIZE - filled - 1;
            if (literals + (match > 0 ? 1 : 0) <= room) {
                putToken(literals, match);
                return true;
            }
            int fitting = Math.min(literals, room);
            if (fitting > 0) {
                putToken(fitting, 0);
            }
            return false;
        }

        /** Answers the length of the match at a byte, 0 if there is none, and sets its distance. */
        private int matchAt(int at) {
            int most = Math.min(MOST_MATCH, size - at);
            int longest = LEAST_MATCH - 1;
            distance = 0;
            for (int d = 1; d <= at - clusterFrom && longest < most; d++) {
                int length = 0;
                while (length < most && data[at + length] == data[at + length - d]) {
                    length++;
                }
                if (length > longest) {
                    longest = length;
                    distance = d;
                }
            }
            return distance == 0 ? 0 : longest;
        }

        private void putToken(int literals, int match) {
            putByte(literals << 4 | (match > 0 ? match - LEAST_MATCH + 1 : 0));
            for (int i = 0; i < literals; i++) {
                putByte(data[next + i]);
            }
            if (match > 0) {
                putByte(distance);
            }
            next += literals + match;
        }

        private void putByte(int b) {
            blocks[clusters * BLOCK_SIZE + filled] = b;
            filled++;
        }
    }

    /** Lays out an image of a tree, beside the device, since it may turn out to have no room there. */
    private static final class Builder {
        private static final int MOST_TAIL = 12;

        private final int[] image;
        private final int[] data;
        private final int[] slotOf;
        private final int[] layoutOf;
        private final Packer packer;
        private int slots;
        private int firstData;
        private int used;

        Builder() {
            image = new int[DEVICE_SIZE];
            data = new int[blocksFor(LETTERS * ENTRY_SIZE) * BLOCK_SIZE];
            slotOf = new int[MOST_NODES];
            layoutOf = new int[MOST_NODES];
            packer = new Packer();
        }

        /** Gives each node its layout and inode: entries name inodes, so all of them come before any data. */
        void giveSlots(Tree tree, int flags) {
            slots = 0;
            for (int node = 0; node < MOST_NODES; node++) {
                slotOf[node] = NONE;
                if (tree.countOf(node) > 0) {
                    layoutOf[node] = chooseLayout(tree, node, flags);
                    slotOf[node] = slots;
                    slots += isLong(tree, node) ? 2 : 1;
                }
            }
        }

        /** Answers whether the image has room on the device. */
        boolean layOut(Tree tree, int flags) {
            Arrays.fill(image, 0);
            firstData = firstBlockBehind(slots);
            used = firstData;
            for (int node = 0; node < MOST_NODES; node++) {
                if (slotOf[node] != NONE && !putInode(tree, node, flags)) {
                    return false;
                }
            }
            putHeader(flags);
            return true;
        }

        private int chooseLayout(Tree tree, int node, int flags) {
            boolean mayPack = (flags & PACKING) != 0 && tree.kindOf(node) == FILE;
            int size = tree.dataSize(node);
            if (mayPack && packer.packContent(tree, node) && packer.clusters < blocksFor(size)) {
                return PACKED;
            }
            int tail = size % BLOCK_SIZE;
            return (flags & TAILS) != 0 && tail > 0 && tail <= MOST_TAIL ? TAILED : PLAIN;
        }

        private boolean isLong(Tree tree, int node) {
            return layoutOf[node] == PACKED
                    || layoutOf[node] == TAILED && tree.dataSize(node) % BLOCK_SIZE > SHORT_REST;
        }

        private boolean putInode(Tree tree, int node, int flags) {
            int size = tree.dataSize(node);
            int at = FIRST_SLOT_AT + slotOf[node] * SLOT_SIZE;
            image[at] = (isLong(tree, node) ? 1 : 0) | tree.kindOf(node) << 1 | layoutOf[node] << 3;
            image[at + 1] = size;
            image[at + 3] = tree.countOf(node) & 255;
            int first;
            if (layoutOf[node] == PACKED) {
                packer.packContent(tree, node);
                putEnds(at + REST_AT);
                first = settle(packer.blocks, packer.clusters, flags);
            } else {
                fillData(tree, node);
                boolean tailed = layoutOf[node] == TAILED;
                if (tailed) {
                    putTail(at + REST_AT, size);
                }
                first = settle(data, tailed ? size / BLOCK_SIZE : blocksFor(size), flags);
            }
            if (first == NONE) {
                return false;
            }
            image[at + 2] = first;
            return true;
        }

        private void putEnds(int at) {
            image[at] = packer.clusters;
            System.arraycopy(packer.ends, 0, image, at + 1, packer.clusters);
        }

        private void putTail(int at, int size) {
            int tail = size % BLOCK_SIZE;
            System.arraycopy(data, size - tail, image, at, tail);
        }

        private void fillData(Tree tree, int node) {
            Arrays.fill(data, 0);
            if (tree.kindOf(node) == DIRECTORY) {
                fillEntries(tree, node);
            } else {
                tree.copyContent(node, data);
            }
        }

        private void fillEntries(Tree tree, int directory) {
            int at = 0;
            for (int letter = 0; letter < LETTERS; letter++) {
                int node = tree.nodeAt(directory, letter);
                if (node != NONE) {
                    data[at] = 'a' + letter;
                    data[at + 1] = slotOf[node];
                    data[at + 2] = tree.kindOf(node);
                    at += ENTRY_SIZE;
                }
            }
        }

        /** Answers the first block of a row of blocks, 0 if the row is empty, NONE if it has no room. */
        private int settle(int[] row, int blocks, int flags) {
            if (blocks == 0) {
                return 0;
            }
            if ((flags & SHARING) != 0) {
                for (int first = firstData; first + blocks <= used; first++) {
                    if (isThere(row, blocks, first)) {
                        return first;
                    }
                }
            }
            if (used + blocks > MOST_BLOCKS) {
                return NONE;
            }
            int first = used;
            System.arraycopy(row, 0, image, first * BLOCK_SIZE, blocks * BLOCK_SIZE);
            used += blocks;
            return first;
        }

        private boolean isThere(int[] row, int blocks, int first) {
            for (int i = 0; i < blocks * BLOCK_SIZE; i++) {
                if (image[first * BLOCK_SIZE + i] != row[i]) {
                    return false;
                }
            }
            return true;
        }

        private void putHeader(int flags) {
            image[0] = MAGIC_0;
            image[1] = MAGIC_1;
            image[FLAGS_AT] = flags;
            image[SLOTS_AT] = slots;
            image[USED_AT] = used;
            putHeaderCheck(image);
        }
    }

    /** The bytes of the device, and, while it is mounted, the inodes on it. */
    private static final class Device {
        private final int[] bytes;
        private final boolean[] begins;
        private boolean mounted;
        private int slots;
        private int used;
        private int inodes;

        Device() {
            bytes = new int[DEVICE_SIZE];
            begins = new boolean[MOST_SLOTS];
        }

        int byteAt(int at) {
            return at >= 0 && at < DEVICE_SIZE ? bytes[at] : 0;
        }

        void put(int at, int b) {
            if (at >= 0 && at < DEVICE_SIZE) {
                bytes[at] = b;
            }
            mounted = false;
        }

        void takeOver(int[] image) {
            System.arraycopy(image, 0, bytes, 0, DEVICE_SIZE);
            mounted = false;
        }

        void renewCheck() {
            putHeaderCheck(bytes);
            mounted = false;
        }

        /** Answers whether the device is mounted now. */
        boolean open() {
            mounted = isHeaderRight();
            if (mounted) {
                slots = bytes[SLOTS_AT];
                used = bytes[USED_AT];
                markInodes();
            }
            return mounted;
        }

        private boolean isHeaderRight() {
            return bytes[0] == MAGIC_0 && bytes[1] == MAGIC_1
                    && (bytes[CHECK_AT] << 8 | bytes[CHECK_AT + 1]) == headerCheck(bytes)
                    && bytes[FLAGS_AT] <= MOST_FLAGS
                    && bytes[USED_AT] >= 1 && bytes[USED_AT] <= MOST_BLOCKS
                    && bytes[SLOTS_AT] >= 1
                    && firstBlockBehind(bytes[SLOTS_AT]) <= bytes[USED_AT];
        }

        private void markInodes() {
            inodes = 0;
            int next = 0;
            for (int slot = 0; slot < MOST_SLOTS; slot++) {
                int behind = slot + (isLong(slot) ? 2 : 1);
                begins[slot] = slot == next && behind <= slots;
                if (begins[slot]) {
                    inodes++;
                    next = behind;
                }
            }
        }

        boolean isInode(int inode) {
            return inode >= 0 && inode < slots && inode < MOST_SLOTS && begins[inode];
        }

        private int slotByte(int inode, int number) {
            int at = FIRST_SLOT_AT + inode * SLOT_SIZE + number;
            return at >= 0 && at < DEVICE_SIZE ? bytes[at] : 0;
        }

        private boolean isLong(int inode) {
            return (slotByte(inode, 0) & 1) != 0;
        }

        int kindOf(int inode) {
            return slotByte(inode, 0) >> 1 & 3;
        }

        int layoutOf(int inode) {
            return slotByte(inode, 0) >> 3 & 3;
        }

        int sizeOf(int inode) {
            return slotByte(inode, 1);
        }

        int firstBlockOf(int inode) {
            return slotByte(inode, 2);
        }

        int countOf(int inode) {
            return slotByte(inode, 3);
        }

        /** Answers how many blocks an inode's data need. */
        int blocksOf(int inode) {
            switch (layoutOf(inode)) {
                case TAILED:
                    return sizeOf(inode) / BLOCK_SIZE;
                case PACKED:
                    return slotByte(inode, REST_AT);
                default:
                    return blocksFor(sizeOf(inode));
            }
        }

        boolean isBad(int inode) {
            int kind = kindOf(inode);
            if (kind == WRONG_KIND || kind == DIRECTORY && sizeOf(inode) % ENTRY_SIZE != 0) {
                return true;
            }
            switch (layoutOf(inode)) {
                case WRONG_LAYOUT:
                    return true;
                case TAILED:
                    return sizeOf(inode) % BLOCK_SIZE > (isLong(inode) ? LONG_REST : SHORT_REST)
                            || !hasItsBlocks(inode);
                case PACKED:
                    return kind != FILE || !isLong(inode) || !hasRightEnds(inode) || !hasItsBlocks(inode);
                default:
                    return !hasItsBlocks(inode);
            }
        }

        private boolean hasItsBlocks(int inode) {
            int blocks = blocksOf(inode);
            int first = firstBlockOf(inode);
            return blocks == 0 || first >= firstBlockBehind(slots) && first + blocks <= used;
        }

        private boolean hasRightEnds(int inode) {
            int clusters = slotByte(inode, REST_AT);
            if (clusters < 1 || clusters > MOST_CLUSTERS) {
                return false;
            }
            for (int number = 0; number < clusters; number++) {
                if (clusterEnd(inode, number) <= clusterStart(inode, number)) {
                    return false;
                }
            }
            return clusterEnd(inode, clusters - 1) == sizeOf(inode);
        }

        int clusterStart(int inode, int number) {
            return number == 0 ? 0 : clusterEnd(inode, number - 1);
        }

        private int clusterEnd(int inode, int number) {
            return slotByte(inode, REST_AT + 1 + number);
        }

        /** Answers the number of the cluster in which a byte of a good PACKED inode lies. */
        int clusterWith(int inode, int at) {
            int number = 0;
            while (number < MOST_CLUSTERS - 1 && at >= clusterEnd(inode, number)) {
                number++;
            }
            return number;
        }

        /** Answers whether a cluster of a good inode is good, and is unpacked now. */
        boolean unpack(int inode, int number, Cluster cluster) {
            int wanted = clusterEnd(inode, number) - clusterStart(inode, number);
            return cluster.fill(bytes, (firstBlockOf(inode) + number) * BLOCK_SIZE, wanted);
        }

        /** Answers a byte of the data of a good inode that is not PACKED. */
        int dataAt(int inode, int at) {
            int whole = blocksOf(inode) * BLOCK_SIZE;
            if (at >= whole) {
                return slotByte(inode, REST_AT + at - whole);
            }
            return byteAt(firstBlockOf(inode) * BLOCK_SIZE + at);
        }

        /** Answers the inode in the entry of a good directory, NONE if there is no entry of that name. */
        int lookUp(int directory, int name) {
            int from = 0;
            int to = sizeOf(directory) / ENTRY_SIZE;
            for (int looks = 0; looks < MOST_SIZE && from < to; looks++) {
                int middle = (from + to) / 2;
                int there = dataAt(directory, middle * ENTRY_SIZE);
                if (there == name) {
                    return dataAt(directory, middle * ENTRY_SIZE + 1);
                }
                if (name < there) {
                    to = middle;
                } else {
                    from = middle + 1;
                }
            }
            return NONE;
        }

        boolean hasWrongEntry(int directory) {
            int before = NONE;
            for (int at = 0; at < sizeOf(directory); at += ENTRY_SIZE) {
                int name = dataAt(directory, at);
                int inode = dataAt(directory, at + 1);
                if (name <= before || !isInode(inode) || kindOf(inode) != dataAt(directory, at + 2)) {
                    return true;
                }
                before = name;
            }
            return false;
        }
    }

    /** A cluster's data, unpacked. */
    private static final class Cluster {
        private final int[] data;
        private int inode;
        private int number;
        private int have;
        private int next;

        Cluster() {
            data = new int[MOST_SIZE];
            inode = NONE;
        }

        int dataAt(int at) {
            return at >= 0 && at < have ? data[at] : 0;
        }

        /** Answers whether the block is that of a good cluster with as many bytes as are wanted. */
        boolean fill(int[] bytes, int block, int wanted) {
            have = 0;
            next = 0;
            if (block < 0 || block + BLOCK_SIZE > bytes.length || wanted > MOST_SIZE) {
                return false;
            }
            boolean good = true;
            for (int token = 0; token <= BLOCK_SIZE && good && have < wanted; token++) {
                good = takeToken(bytes, block, wanted);
            }
            return good;
        }

        private boolean takeToken(int[] bytes, int block, int wanted) {
            if (next >= BLOCK_SIZE || bytes[block + next] == 0) {
                return false;
            }
            int token = bytes[block + next];
            next++;
            if (!takeLiterals(bytes, block, Math.min(token >> 4, wanted - have))) {
                return false;
            }
            int matched = token & 15;
            return matched == 0 || have >= wanted
                    || takeMatch(bytes, block, Math.min(matched + 2, wanted - have));
        }

        private boolean takeLiterals(int[] bytes, int block, int literals) {
            if (next + literals > BLOCK_SIZE) {
                return false;
            }
            for (int i = 0; i < literals; i++) {
                data[have] = bytes[block + next];
                have++;
                next++;
            }
            return true;
        }

        private boolean takeMatch(int[] bytes, int block, int length) {
            if (next >= BLOCK_SIZE) {
                return false;
            }
            int distance = bytes[block + next];
            next++;
            if (distance == 0 || distance > have) {
                return false;
            }
            for (int i = 0; i < length; i++) {
                data[have] = data[have - distance];
                have++;
            }
            return true;
        }
    }

    /** Keeps the two clusters that were used last; a third one is there to unpack into. */
    private static final class Cache {
        private Cluster newest;
        private Cluster older;
        private Cluster spare;
        private int hits;
        private int misses;

        Cache() {
            newest = new Cluster();
            older = new Cluster();
            spare = new Cluster();
        }

        void empty() {
            newest.inode = NONE;
            older.inode = NONE;
            hits = 0;
            misses = 0;
        }

        /** Answers whether a cluster is kept, which is the newest one then, and counts it. */
        boolean holds(int inode, int number) {
            if (older.inode == inode && older.number == number) {
                Cluster used = older;
                older = newest;
                newest = used;
            }
            boolean hit = newest.inode == inode && newest.number == number;
            if (hit) {
                hits++;
            } else {
                misses++;
            }
            return hit;
        }

        void keepSpare(int inode, int number) {
            Cluster used = spare;
            used.inode = inode;
            used.number = number;
            spare = older;
            older = newest;
            newest = used;
        }
    }
}
