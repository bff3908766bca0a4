import java.util.ArrayList;
import java.util.Arrays;
import java.util.Collections;
import java.util.LinkedHashMap;
import java.util.List;
import java.util.Map;
import java.util.TreeMap;

/** The document told in another way, with lists and maps and without care for speed. */
final class Model {
    private static final class Node {
        final int kind;
        final TreeMap<Character, Node> entries = new TreeMap<>();
        final List<Integer> content = new ArrayList<>();

        Node(int kind) {
            this.kind = kind;
        }
    }

    /** An inode as it is about to be written. */
    private static final class Draft {
        Node node;
        int number;
        int layout;
        int size;
        List<List<Integer>> clusters = List.of();

        int tail() {
            return size % 16;
        }

        boolean isLong() {
            return layout == 2 || layout == 1 && tail() > 4;
        }
    }

    private final List<Node> nodes = new ArrayList<>(List.of(new Node(0)));
    private int[] device = new int[1024];
    private List<Integer> inodes = null;
    private final Map<String, List<Integer>> kept = new LinkedHashMap<>(4, 0.75f, true);
    private int hits;
    private int misses;
    private int followed;

    private static void argument(boolean right) {
        if (!right) {
            throw new IllegalArgumentException();
        }
    }

    private static void state(boolean right) {
        if (!right) {
            throw new IllegalStateException();
        }
    }

    private static void bounds(boolean right) {
        if (!right) {
            throw new IndexOutOfBoundsException();
        }
    }

    private Node node(int number, int kind) {
        argument(number >= 0 && number < nodes.size());
        argument(nodes.get(number).kind == kind);
        return nodes.get(number);
    }

    private static boolean letter(int b) {
        return "abcdefghijklmnopqrstuvwxyz".indexOf(b) >= 0;
    }

    int create(int kind, int directory, char name) {
        argument(List.of(0, 1, 2).contains(kind));
        Node parent = node(directory, 0);
        argument(letter(name) && !parent.entries.containsKey(name));
        state(nodes.size() != 16);
        Node made = new Node(kind);
        nodes.add(made);
        parent.entries.put(name, made);
        return nodes.size() - 1;
    }

    void link(int file, int directory, char name) {
        Node target = node(file, 1);
        Node parent = node(directory, 0);
        argument(letter(name) && !parent.entries.containsKey(name));
        parent.entries.put(name, target);
    }

    void unlink(int directory, char name) {
        Node parent = node(directory, 0);
        argument(parent.entries.containsKey(name) && parent.entries.get(name).kind == 1);
        parent.entries.remove(name);
    }

    int append(int node, int b) {
        argument(node >= 0 && node < nodes.size() && nodes.get(node).kind != 0);
        Node target = nodes.get(node);
        argument(target.kind == 1 ? (b & 255) == b : letter(b));
        state(target.content.size() < (target.kind == 1 ? 60 : 4));
        target.content.add(b);
        return target.content.size();
    }

    private int count(Node node) {
        int count = node == nodes.get(0) ? 1 : 0;
        for (Node parent : nodes) {
            for (Node child : parent.entries.values()) {
                count += child == node ? 1 : 0;
            }
        }
        return count;
    }

    int build(int flags) {
        argument(flags >= 0 && flags <= 7);
        List<Draft> drafts = drafts(flags);
        int slots = 0;
        for (Draft draft : drafts) {
            draft.number = slots;
            slots += draft.isLong() ? 2 : 1;
        }
        List<List<Integer>> blocks = new ArrayList<>();
        int start = 1 + slots / 2 + slots % 2;
        List<Integer> table = new ArrayList<>();
        for (Draft draft : drafts) {
            table.addAll(inode(draft, drafts, blocks, start, (flags & 2) == 2));
        }
        int used = start + blocks.size();
        if (used > 64) {
            throw new UnsupportedOperationException();
        }
        int[] made = new int[1024];
        System.arraycopy(new int[] {225, 245, flags, slots, used}, 0, made, 0, 5);
        for (int i = 0; i < table.size(); i++) {
            made[16 + i] = table.get(i);
        }
        for (int i = 0; i < blocks.size() * 16; i++) {
            made[start * 16 + i] = blocks.get(i / 16).get(i % 16);
        }
        device = made;
        seal();
        return used;
    }

    private List<Draft> drafts(int flags) {
        List<Draft> drafts = new ArrayList<>();
        for (Node node : nodes) {
            if (count(node) == 0) {
                continue;
            }
            Draft draft = new Draft();
            draft.node = node;
            draft.size = node.kind == 0 ? node.entries.size() * 3 : node.content.size();
            if (node.kind == 1 && (flags & 4) == 4) {
                draft.clusters = pack(node.content);
                if (draft.clusters.size() / 2 < (draft.size + 15) / 16 && draft.clusters.size() / 2 <= 11) {
                    draft.layout = 2;
                }
            }
            if (draft.layout == 0 && (flags & 1) == 1 && draft.tail() != 0 && draft.tail() < 13) {
                draft.layout = 1;
            }
            drafts.add(draft);
        }
        return drafts;
    }

    private List<Integer> inode(Draft draft, List<Draft> all, List<List<Integer>> blocks, int start, boolean share) {
        List<Integer> data = data(draft, all);
        List<Integer> rest = new ArrayList<>();
        List<List<Integer>> row = new ArrayList<>();
        if (draft.layout == 2) {
            int end = 0;
            rest.add(draft.clusters.size() / 2);
            for (int i = 0; i < draft.clusters.size(); i += 2) {
                row.add(draft.clusters.get(i));
                end += draft.clusters.get(i + 1).size();
                rest.add(end);
            }
        } else {
            int from = 0;
            while (data.size() - from >= 16 || draft.layout == 0 && from < data.size()) {
                row.add(filledUp(data.subList(from, Math.min(from + 16, data.size())), 16));
                from += 16;
            }
            rest.addAll(data.subList(Math.min(from, data.size()), data.size()));
        }
        int first = 0;
        if (!row.isEmpty()) {
            int place = share ? Collections.indexOfSubList(blocks, row) : -1;
            first = start + (place < 0 ? blocks.size() : place);
            if (place < 0) {
                blocks.addAll(row);
            }
        }
        int mode = (draft.isLong() ? 1 : 0) + 2 * draft.node.kind + 8 * draft.layout;
        List<Integer> inode = new ArrayList<>(List.of(mode, draft.size, first % 256, count(draft.node) % 256));
        inode.addAll(filledUp(rest, draft.isLong() ? 12 : 4));
        return inode;
    }

    private static List<Integer> data(Draft draft, List<Draft> all) {
        List<Integer> data = new ArrayList<>(draft.node.content);
        for (Map.Entry<Character, Node> entry : draft.node.entries.entrySet()) {
            for (Draft other : all) {
                if (other.node == entry.getValue()) {
                    data.addAll(List.of((int) entry.getKey(), other.number, other.node.kind));
                }
            }
        }
        return data;
    }

    private static List<Integer> filledUp(List<Integer> row, int size) {
        List<Integer> filled = new ArrayList<>(row);
        while (filled.size() < size) {
            filled.add(0);
        }
        return filled;
    }

    /** Clusters, by turns the block and the data that it stands for. */
    private static List<List<Integer>> pack(List<Integer> content) {
        List<List<Integer>> clusters = new ArrayList<>();
        List<Integer> left = content;
        while (!left.isEmpty()) {
            List<Integer> block = new ArrayList<>();
            int taken = packOne(left, block);
            clusters.add(filledUp(block, 16));
            clusters.add(left.subList(0, taken));
            left = left.subList(taken, left.size());
        }
        return clusters;
    }

    private static int packOne(List<Integer> data, List<Integer> block) {
        int done = 0;
        while (done < data.size() && block.size() < 16) {
            int at = done;
            while (at < data.size() && at - done < 15 && match(data, at) == null) {
                at++;
            }
            int[] match = at < data.size() ? match(data, at) : null;
            int room = 16 - block.size();
            int literals = at - done;
            if (match != null && 1 + literals + 1 <= room) {
                block.add(16 * literals + match[0] - 2);
                block.addAll(data.subList(done, at));
                block.add(match[1]);
                done = at + match[0];
            } else if (1 + literals <= room && literals > 0) {
                block.add(16 * literals);
                block.addAll(data.subList(done, at));
                done = at;
                if (match != null) {
                    return done;
                }
            } else {
                int fit = Math.min(room - 1, literals);
                if (fit > 0) {
                    block.add(16 * fit);
                    block.addAll(data.subList(done, done + fit));
                    done += fit;
                }
                return done;
            }
        }
        return done;
    }

    /** Length and D, or null. */
    private static int[] match(List<Integer> data, int at) {
        for (int length = Math.min(17, data.size() - at); length >= 3; length--) {
            for (int d = 1; d <= at; d++) {
                if (data.subList(at, at + length).equals(data.subList(at - d, at - d + length))) {
                    return new int[] {length, d};
                }
            }
        }
        return null;
    }

    int peek(int at) {
        bounds(at >= 0 && at <= 1023);
        return device[at];
    }

    void poke(int at, int b) {
        bounds(at >= 0 && at <= 1023);
        device[at] = Math.floorMod(b, 256);
        inodes = null;
    }

    private int crc() {
        int rest = 0xFFFF;
        for (int i = 0; i < 14; i++) {
            rest ^= device[i] * 256;
            for (int k = 0; k < 8; k++) {
                boolean high = rest >= 32768;
                rest = rest * 2 % 65536;
                rest = high ? rest ^ 4129 : rest;
            }
        }
        return rest;
    }

    void seal() {
        int crc = crc();
        device[14] = crc / 256;
        device[15] = crc % 256;
        inodes = null;
    }

    int mount() {
        inodes = null;
        state(device[0] == 225 && device[1] == 245);
        state(device[14] * 256 + device[15] == crc());
        state(device[2] < 8);
        state(device[4] > 0 && device[4] < 65);
        state(device[3] > 0);
        state(16 + device[3] * 8 <= device[4] * 16);
        kept.clear();
        hits = 0;
        misses = 0;
        inodes = new ArrayList<>();
        int slot = 0;
        while (slot < device[3]) {
            int length = 1 + device[16 + 8 * slot] % 2;
            if (slot + length > device[3]) {
                break;
            }
            inodes.add(slot);
            slot += length;
        }
        return inodes.size();
    }

    private int field(int inode, int number) {
        return device[16 + 8 * inode + number];
    }

    private int kind(int inode) {
        return field(inode, 0) / 2 % 4;
    }

    private int layout(int inode) {
        return field(inode, 0) / 8 % 4;
    }

    private boolean bad(int inode) {
        boolean isLong = field(inode, 0) % 2 == 1;
        int size = field(inode, 1);
        int kind = kind(inode);
        int layout = layout(inode);
        if (kind == 3 || layout == 3 || kind == 0 && size % 3 != 0) {
            return true;
        }
        int needs = layout == 0 ? (size + 15) / 16 : size / 16;
        if (layout == 1 && size % 16 > (isLong ? 12 : 4)) {
            return true;
        }
        if (layout == 2) {
            needs = field(inode, 4);
            if (!isLong || kind != 1 || needs == 0 || needs > 11) {
                return true;
            }
            int before = 0;
            for (int i = 0; i < needs; i++) {
                if (field(inode, 5 + i) <= before) {
                    return true;
                }
                before = field(inode, 5 + i);
            }
            if (before != size) {
                return true;
            }
        }
        for (int block = field(inode, 2); block < field(inode, 2) + needs; block++) {
            if (block * 16 < 16 + 8 * device[3] || block >= device[4]) {
                return true;
            }
        }
        return false;
    }

    int stat(int inode, int what) {
        state(inodes != null);
        bounds(inodes.contains(inode));
        argument(what >= 0 && what <= 5);
        return List.of(kind(inode), layout(inode), field(inode, 1), field(inode, 3), field(inode, 2),
                bad(inode) ? 1 : 0).get(what);
    }

    /** The data of a good inode that is not PACKED. */
    private List<Integer> data(int inode) {
        int size = field(inode, 1);
        int inBlocks = layout(inode) == 1 ? size - size % 16 : size;
        List<Integer> data = new ArrayList<>();
        for (int i = 0; i < inBlocks; i++) {
            data.add(device[field(inode, 2) * 16 + i]);
        }
        for (int i = 0; i < size - inBlocks; i++) {
            data.add(field(inode, 4 + i));
        }
        return data;
    }

    /** The data of a cluster, null if it is bad. */
    private List<Integer> cluster(int inode, int number) {
        int wanted = field(inode, 5 + number) - (number == 0 ? 0 : field(inode, 4 + number));
        int from = (field(inode, 2) + number) * 16;
        List<Integer> block = new ArrayList<>();
        for (int b : Arrays.copyOfRange(device, from, from + 16)) {
            block.add(b);
        }
        List<Integer> data = new ArrayList<>();
        while (data.size() < wanted) {
            if (block.isEmpty() || block.get(0) == 0) {
                return null;
            }
            int token = block.remove(0);
            for (int i = 0; i < token / 16 && data.size() < wanted; i++) {
                if (block.isEmpty()) {
                    return null;
                }
                data.add(block.remove(0));
            }
            if (token % 16 != 0 && data.size() < wanted) {
                if (block.isEmpty() || block.get(0) == 0 || block.get(0) > data.size()) {
                    return null;
                }
                int d = block.remove(0);
                for (int i = 0; i < token % 16 + 2 && data.size() < wanted; i++) {
                    data.add(data.get(data.size() - d));
                }
            }
        }
        return data;
    }

    int read(int inode, int at) {
        state(inodes != null);
        bounds(inodes.contains(inode));
        state(!bad(inode));
        bounds(at >= 0 && at < field(inode, 1));
        if (layout(inode) != 2) {
            return data(inode).get(at);
        }
        int number = 0;
        int before = 0;
        while (field(inode, 5 + number) <= at) {
            before = field(inode, 5 + number);
            number++;
        }
        String key = inode + "/" + number;
        List<Integer> data = kept.get(key);
        if (data != null) {
            hits++;
        } else {
            misses++;
            data = cluster(inode, number);
            state(data != null);
            kept.put(key, data);
            if (kept.size() > 2) {
                kept.remove(kept.keySet().iterator().next());
            }
        }
        return data.get(at - before);
    }

    int find(int directory, char name) {
        state(inodes != null);
        bounds(inodes.contains(directory));
        argument(kind(directory) == 0);
        state(!bad(directory));
        List<Integer> data = data(directory);
        return halves(data, name, 0, data.size() / 3);
    }

    private static int halves(List<Integer> data, int name, int from, int to) {
        if (from == to) {
            return -1;
        }
        int looked = (from + to) / 2;
        int there = data.get(3 * looked);
        if (there == name) {
            return data.get(3 * looked + 1);
        }
        return name < there ? halves(data, name, from, looked) : halves(data, name, looked + 1, to);
    }

    int resolve(int path) {
        state(inodes != null);
        state(inodes.contains(0) && !bad(0));
        List<Integer> letters = new ArrayList<>();
        for (long left = path & 0xFFFFFFFFL; left % 256 != 0; left /= 256) {
            letters.add((int) (left % 256));
        }
        followed = 0;
        return gone(letters);
    }

    private int gone(List<Integer> letters) {
        int here = 0;
        for (int letter : letters) {
            if (kind(here) != 0) {
                return -1;
            }
            here = find(here, (char) letter);
            if (here < 0) {
                return -1;
            }
            state(inodes.contains(here) && !bad(here));
            if (kind(here) == 2) {
                followed++;
                if (followed > 4 || field(here, 1) > 4) {
                    return -1;
                }
                here = gone(data(here));
                if (here < 0) {
                    return -1;
                }
            }
        }
        return here;
    }

    int cache(boolean ofHits) {
        return inodes == null ? 0 : ofHits ? hits : misses;
    }

    int check() {
        state(inodes != null);
        for (int inode : inodes) {
            if (wrong(inode)) {
                return inode;
            }
        }
        return -1;
    }

    private boolean wrong(int inode) {
        if (bad(inode)) {
            return true;
        }
        if (layout(inode) == 2) {
            for (int number = 0; number < field(inode, 4); number++) {
                if (cluster(inode, number) == null) {
                    return true;
                }
            }
        } else if (kind(inode) == 0) {
            List<Integer> data = data(inode);
            for (int i = 0; i < data.size(); i += 3) {
                boolean rises = i == 0 || data.get(i) > data.get(i - 3);
                if (!rises || !inodes.contains(data.get(i + 1)) || kind(data.get(i + 1)) != data.get(i + 2)) {
                    return true;
                }
            }
        }
        return false;
    }
}
