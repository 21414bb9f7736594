import java.util.ArrayList;
import java.util.List;
import java.util.TreeMap;

/**
 * A second reading of the document, for ModelTest: a FILE is a plain list of its FRAGMENTS, what is FREE a plain row,
 * all else is found anew at each call.
 */
final class Model {
    private static final int BAD = -1, STATE = -2, FULL = -3, NONE = -4;

    /** An INODE that is not nothing. */
    private static final class Node {
        boolean directory;
        int parent = NONE;
        int name = NONE;
        List<Integer> fragments = new ArrayList<>();

        Node copy() {
            Node node = new Node();
            node.directory = directory;
            node.parent = parent;
            node.name = name;
            node.fragments = new ArrayList<>(fragments);
            return node;
        }
    }

    /** What an IMAGE keeps. */
    private static final class Core {
        boolean[] free;
        TreeMap<Integer, Node> nodes = new TreeMap<>();
        int extended;
        int moved;

        Core copy() {
            Core core = new Core();
            core.free = free.clone();
            for (int i : nodes.keySet()) {
                core.nodes.put(i, nodes.get(i).copy());
            }
            core.extended = extended;
            core.moved = moved;
            return core;
        }
    }

    /** A FAULT while a text is read. */
    private static final class Fault extends Exception {
        private static final long serialVersionUID = 1;
        final int which;
        final int place;

        Fault(int which, int place) {
            this.which = which;
            this.place = place;
        }
    }

    int[] rules = {2, 4, 4, 0, 0, 4};
    Core core;
    Core[] images = new Core[2];
    StringBuilder tape = new StringBuilder();
    int latest;

    Model() {
        anew();
    }

    private void anew() {
        core = new Core();
        core.free = new boolean[rules[0] * rules[1] * 4];
        java.util.Arrays.fill(core.free, true);
        core.free[0] = false;
        Node root = new Node();
        root.directory = true;
        root.fragments.add(0);
        core.nodes.put(0, root);
        images = new Core[2];
    }

    // the text

    int feed(int c) {
        if (c < 0 || c > 127) return BAD;
        if (tape.length() == 200) return FULL;
        tape.append((char) c);
        return tape.length();
    }

    int end(int n) {
        int had = tape.length();
        if (n < 0 || n > had) return BAD;
        tape.setLength(n);
        return had;
    }

    private String source;
    private int at;
    private int place;

    /** The next TOKEN; an empty one at the end. */
    private String token() throws Fault {
        while (at < source.length() && source.charAt(at) == ' ') at++;
        place = at;
        if (at == source.length()) return "";
        java.util.regex.Matcher matcher = java.util.regex.Pattern.compile("[a-z]+|[0-9]+|;").matcher(source);
        if (!matcher.find(at) || matcher.start() != at) throw new Fault(1, place);
        String token = matcher.group();
        if (Character.isDigit(token.charAt(0)) && token.length() > 2) throw new Fault(1, place);
        at = matcher.end();
        return token;
    }

    private void want(String token) throws Fault {
        if (!token().equals(token)) throw new Fault(2, place);
    }

    private int number(int least, int most) throws Fault {
        String token = token();
        if (token.isEmpty() || !Character.isDigit(token.charAt(0))) throw new Fault(2, place);
        int value = Integer.parseInt(token);
        if (value < least || value > most) throw new Fault(3, place);
        return value;
    }

    int text() {
        Model told = new Model();
        source = tape.toString();
        tape.setLength(0);
        at = 0;
        try {
            want("volume");
            told.rules = new int[] {number(1, 4), number(1, 8), number(1, 6), number(0, 3), number(0, 99), number(1, 8)};
            want(";");
            told.anew();
            List<Integer> directories = new ArrayList<>(List.of(0));
            for (String word = token(); !word.isEmpty(); word = token()) {
                if (!word.equals("dir") && !word.equals("file")) throw new Fault(2, place);
                boolean directory = word.equals("dir");
                int parent = directories.get(number(0, directories.size() - 1));
                int name = number(0, 9);
                int size = directory ? 0 : number(0, 40);
                want(";");
                int i = told.make(parent, name, directory ? 1 : 2);
                if (i == STATE) throw new Fault(4, place);
                if (i < 0 || (size > 0 && told.grow(i, size) < 0)) throw new Fault(5, place);
                if (directory) directories.add(i);
            }
        } catch (Fault fault) {
            latest = fault.which;
            return -10 - fault.place;
        }
        latest = 0;
        rules = told.rules;
        core = told.core;
        images = new Core[2];
        return core.nodes.size();
    }

    int fault() {
        return latest;
    }

    // what there is

    private int groupOfBlock(int b) {
        return b / rules[1];
    }

    private boolean blockIsFree(int b) {
        return core.free[4 * b] && core.free[4 * b + 1] && core.free[4 * b + 2] && core.free[4 * b + 3];
    }

    private int freeBlocks(int g) {
        int n = 0;
        for (int b = g * rules[1]; b < (g + 1) * rules[1]; b++) if (blockIsFree(b)) n++;
        return n;
    }

    private int allFreeBlocks() {
        int n = 0;
        for (int g = 0; g < rules[0]; g++) n += freeBlocks(g);
        return n;
    }

    private int room() {
        int n = 0;
        for (boolean f : core.free) if (f) n++;
        return n;
    }

    private int directories(int g) {
        int n = 0;
        for (int i : core.nodes.keySet()) if (i / rules[2] == g && core.nodes.get(i).directory) n++;
        return n;
    }

    private int nothings(int g) {
        int n = rules[2];
        for (int i : core.nodes.keySet()) if (i / rules[2] == g) n--;
        return n;
    }

    private int blockOf(Node node, int k) {
        return node.fragments.get(4 * k) / 4;
    }

    private int pairs(Node node, boolean following) {
        int n = 0;
        for (int k = 1; k < node.fragments.size() / 4; k++) {
            if (k % rules[5] == 0) continue;
            int a = blockOf(node, k - 1);
            int b = blockOf(node, k);
            boolean follows = groupOfBlock(a) == groupOfBlock(b) && b % rules[1] == (a % rules[1] + 1 + rules[3]) % rules[1];
            if (!following || follows) n++;
        }
        return n;
    }

    int rule(int what) {
        if (what < 0 || what > 14) return BAD;
        if (what < 6) return rules[what];
        if (what == 6) return room();
        if (what == 7) return allFreeBlocks();
        if (what == 13) return core.extended;
        if (what == 14) return core.moved;
        int sum = 0;
        for (Node node : core.nodes.values()) {
            if (what == 8) sum += node.directory ? 1 : 0;
            if (what == 9) sum += node.directory ? 0 : 1;
            if (what == 10) sum += node.fragments.size();
            if (what == 11) sum += pairs(node, false);
            if (what == 12) sum += pairs(node, true);
        }
        return sum;
    }

    /** The RUNS of a GROUP, as pairs of first and length. */
    private List<int[]> runs(int g) {
        List<int[]> runs = new ArrayList<>();
        for (int b = g * rules[1]; b < (g + 1) * rules[1]; b++) {
            if (blockIsFree(b)) continue;
            StringBuilder picture = new StringBuilder();
            for (int p = 0; p < 4; p++) picture.append(core.free[4 * b + p] ? 'f' : ' ');
            java.util.regex.Matcher matcher = java.util.regex.Pattern.compile("f+").matcher(picture);
            while (matcher.find()) runs.add(new int[] {4 * b + matcher.start(), matcher.end() - matcher.start()});
        }
        return runs;
    }

    int group(int g, int what) {
        if (g < 0 || g >= rules[0] || what < 0 || what > 6) return BAD;
        int n = 0;
        if (what == 0) for (int x = g * rules[1] * 4; x < (g + 1) * rules[1] * 4; x++) n += core.free[x] ? 1 : 0;
        if (what == 1) n = freeBlocks(g);
        if (what == 2) n = nothings(g);
        if (what == 3) n = directories(g);
        if (what > 3) for (int[] run : runs(g)) n += run[1] == what - 3 ? 1 : 0;
        return n;
    }

    private boolean isInode(int i) {
        return i >= 0 && i < rules[0] * rules[2];
    }

    private boolean isDirectory(int i) {
        return core.nodes.containsKey(i) && core.nodes.get(i).directory;
    }

    private boolean isFile(int i) {
        return core.nodes.containsKey(i) && !core.nodes.get(i).directory;
    }

    int inode(int i, int what) {
        if (!isInode(i) || what < 0 || what > 7) return BAD;
        Node node = core.nodes.get(i);
        if (what == 0) return node == null ? 0 : node.directory ? 1 : 2;
        if (node == null) return NONE;
        int size = node.fragments.size();
        switch (what) {
            case 1: return node.parent;
            case 2: return node.name;
            case 3: return size;
            case 4: return size / 4;
            case 5: return size % 4 == 0 ? NONE : node.fragments.get(size - size % 4);
            case 6: return pairs(node, false);
            default: return pairs(node, true);
        }
    }

    int block(int i, int k) {
        if (!isInode(i) || k < 0) return BAD;
        Node node = core.nodes.get(i);
        return node == null || k >= node.fragments.size() / 4 ? NONE : blockOf(node, k);
    }

    private int owner(int x) {
        for (int i : core.nodes.keySet()) if (core.nodes.get(i).fragments.contains(x)) return i;
        return NONE;
    }

    int fragment(int x, int what) {
        if (x < 0 || x >= core.free.length || what < 0 || what > 1) return BAD;
        return what == 1 ? owner(x) : core.free[x] ? 1 : 0;
    }

    private TreeMap<Integer, Integer> names(int d) {
        TreeMap<Integer, Integer> names = new TreeMap<>();
        for (int i : core.nodes.keySet()) if (i != 0 && core.nodes.get(i).parent == d) names.put(core.nodes.get(i).name, i);
        return names;
    }

    int find(int d, int name) {
        if (!isDirectory(d) || name < 0 || name > 9) return BAD;
        return names(d).getOrDefault(name, NONE);
    }

    int entry(int d, int i) {
        if (!isDirectory(d) || i < 0) return BAD;
        List<Integer> all = new ArrayList<>(names(d).values());
        return i < all.size() ? all.get(i) : NONE;
    }

    int where(int d, int kind) {
        if (!isDirectory(d) || kind < 1 || kind > 2) return BAD;
        int all = rules[0] * rules[2] - core.nodes.size();
        if (all == 0) return NONE;
        if (kind == 2) {
            int g = d / rules[2];
            while (nothings(g) == 0) g = (g + 1) % rules[0];
            return g;
        }
        List<Integer> fit = new ArrayList<>();
        for (int g = 0; g < rules[0]; g++) if (nothings(g) > 0 && nothings(g) * rules[0] >= all) fit.add(g);
        fit.sort((a, b) -> directories(a) - directories(b));
        return fit.get(0);
    }

    // deeds

    private boolean spoilt() {
        return check(2) != NONE;
    }

    private List<Integer> groupsFrom(int g) {
        List<Integer> groups = new ArrayList<>();
        for (int j = 0; j < rules[0]; j++) groups.add((g + j) % rules[0]);
        return groups;
    }

    private List<Integer> taken(int first, int n) {
        List<Integer> fragments = new ArrayList<>();
        for (int x = first; x < first + n; x++) {
            fragments.add(x);
            core.free[x] = false;
        }
        return fragments;
    }

    /** null: none can be TAKEN. */
    private List<Integer> takeBlock(int near, int p) {
        for (int j = 0; j < rules[1]; j++) {
            int b = near * rules[1] + (p + j) % rules[1];
            if (blockIsFree(b)) return taken(4 * b, 4);
        }
        for (int g : groupsFrom(near)) {
            for (int b = g * rules[1]; b < (g + 1) * rules[1]; b++) if (blockIsFree(b)) return taken(4 * b, 4);
        }
        return null;
    }

    private List<Integer> takeRun(int near, int n) {
        for (int g : groupsFrom(near)) {
            for (int length = n; length <= 3; length++) {
                for (int[] run : runs(g)) if (run[1] == length) return taken(run[0], n);
            }
            for (int b = g * rules[1]; b < (g + 1) * rules[1]; b++) if (blockIsFree(b)) return taken(4 * b, n);
        }
        return null;
    }

    int make(int d, int name, int kind) {
        if (!isDirectory(d) || name < 0 || name > 9 || kind < 1 || kind > 2) return BAD;
        if (spoilt() || names(d).containsKey(name)) return STATE;
        int g = where(d, kind);
        if (g == NONE || (kind == 1 && room() - 1 < rules[4])) return FULL;
        int i = g * rules[2];
        while (core.nodes.containsKey(i)) i++;
        Node node = new Node();
        node.directory = kind == 1;
        node.parent = d;
        node.name = name;
        if (kind == 1) node.fragments = takeRun(g, 1);
        core.nodes.put(i, node);
        return i;
    }

    int grow(int i, int n) {
        if (!isFile(i) || n < 1 || n > 40) return BAD;
        if (spoilt()) return STATE;
        int size = core.nodes.get(i).fragments.size() + n;
        if (size > 40 || room() - n < rules[4]) return FULL;
        Core before = core.copy();
        if (grows(i, core.nodes.get(i).fragments, size)) return size;
        core = before;
        return FULL;
    }

    private int lastGroup(int i, List<Integer> fragments) {
        int blocks = fragments.size() / 4;
        return blocks == 0 ? i / rules[2] : groupOfBlock(fragments.get(4 * blocks - 4) / 4);
    }

    private boolean grows(int i, List<Integer> own, int size) {
        int blocks = own.size() / 4;
        List<Integer> tail = new ArrayList<>(own.subList(4 * blocks, own.size()));
        int t = tail.size();
        int u = size % 4;
        boolean more = size / 4 > blocks;
        int wanted = more ? 4 : u;
        boolean extends0 = t > 0 && (!more || tail.get(0) % 4 == 0);
        for (int j = t; extends0 && j < wanted; j++) {
            int x = tail.get(0) + j;
            extends0 = x / 4 == tail.get(0) / 4 && core.free[x];
        }
        if (extends0) {
            own.addAll(taken(tail.get(0) + t, wanted - t));
            core.extended++;
        } else {
            own.subList(4 * blocks, own.size()).clear();
            List<Integer> got = more ? nextBlock(i, own) : takeRun(lastGroup(i, own), u);
            if (got == null) return false;
            own.addAll(got);
            for (int x : tail) core.free[x] = true;
            if (t > 0) core.moved++;
        }
        while (own.size() / 4 < size / 4) {
            List<Integer> got = nextBlock(i, own);
            if (got == null) return false;
            own.addAll(got);
        }
        if (own.size() < size) {
            List<Integer> got = takeRun(lastGroup(i, own), u);
            if (got == null) return false;
            own.addAll(got);
        }
        return true;
    }

    private List<Integer> nextBlock(int i, List<Integer> own) {
        int k = own.size() / 4;
        int last = lastGroup(i, own);
        if (k == 0) return takeBlock(last, 0);
        if (k % rules[5] != 0) {
            int before = own.get(4 * k - 4) / 4;
            return takeBlock(last, (before % rules[1] + 1 + rules[3]) % rules[1]);
        }
        List<Integer> order = groupsFrom(last);
        order.add(order.remove(0));
        for (int g : order) if (freeBlocks(g) * rules[0] >= allFreeBlocks()) return takeBlock(g, 0);
        throw new IllegalStateException("no group has so many");
    }

    int shrink(int i, int n) {
        if (!isFile(i) || n < 1 || n > core.nodes.get(i).fragments.size()) return BAD;
        if (spoilt()) return STATE;
        List<Integer> own = core.nodes.get(i).fragments;
        for (int j = 0; j < n; j++) core.free[own.remove(own.size() - 1)] = true;
        return own.size();
    }

    int remove(int i) {
        if (!core.nodes.containsKey(i)) return BAD;
        if (spoilt() || i == 0 || !names(i).isEmpty()) return STATE;
        Node node = core.nodes.remove(i);
        for (int x : node.fragments) core.free[x] = true;
        return node.fragments.size();
    }

    int move(int i, int d, int name) {
        if (!core.nodes.containsKey(i) || !isDirectory(d) || name < 0 || name > 9) return BAD;
        if (spoilt() || i == 0) return STATE;
        for (int at = d; at != NONE; at = core.nodes.get(at).parent) if (at == i) return STATE;
        if (names(d).getOrDefault(name, i) != i) return STATE;
        core.nodes.get(i).parent = d;
        core.nodes.get(i).name = name;
        int far = 0;
        for (int at = i; at != 0; at = core.nodes.get(at).parent) far++;
        return far;
    }

    int gather(int i) {
        if (!isFile(i)) return BAD;
        Node node = core.nodes.get(i);
        int q = node.fragments.size() / 4;
        if (spoilt() || q < 2) return STATE;
        for (int g : groupsFrom(i / rules[2])) {
            for (int p = 0; p < rules[1]; p++) {
                List<Integer> row = new ArrayList<>();
                for (int k = 0; k < q; k++) row.add(p + k * (1 + rules[3]));
                if (row.stream().allMatch(place -> place < rules[1] && blockIsFree(g * rules[1] + place))) {
                    for (int j = 0; j < 4 * q; j++) {
                        core.free[node.fragments.get(j)] = true;
                        int x = 4 * (g * rules[1] + row.get(j / 4)) + j % 4;
                        core.free[x] = false;
                        node.fragments.set(j, x);
                    }
                    core.moved += q;
                    return pairs(node, true);
                }
            }
        }
        return FULL;
    }

    int draw(int seed, int n) {
        if (n < 1 || n > 20) return BAD;
        if (spoilt()) return STATE;
        int answered = 0;
        for (int deed = 0; deed < n; deed++) {
            int[] got = new int[4];
            for (int g = 0; g < 4; g++) {
                seed = seed * 1103515245 + 12345;
                got[g] = (seed & 0x7fffffff) >> 16;
            }
            int a = got[1] % (rules[0] * rules[2]);
            int more = got[3] % 9 + 1;
            int answer;
            switch (got[0] % 6) {
                case 0: answer = make(a, got[2] % 10, 1); break;
                case 1: case 2: answer = make(a, got[2] % 10, 2); answer = answer < 0 ? answer : grow(answer, more); break;
                case 5: answer = remove(a); break;
                default: answer = grow(a, more);
            }
            if (answer >= 0) answered++;
        }
        return answered;
    }

    // the map, images

    int flip(int x) {
        if (x < 0 || x >= core.free.length) return BAD;
        core.free[x] = !core.free[x];
        return core.free[x] ? 0 : 1;
    }

    int check(int what) {
        if (what < 0 || what > 2) return BAD;
        int n = 0;
        for (int x = 0; x < core.free.length; x++) {
            boolean had = owner(x) != NONE;
            if (core.free[x] != had) continue;
            if (what == 2) return x;
            if (had == (what == 0)) n++;
        }
        return what == 2 ? NONE : n;
    }

    int mend() {
        int n = 0;
        for (int x = 0; x < core.free.length; x++) {
            boolean due = owner(x) == NONE;
            if (core.free[x] != due) n++;
            core.free[x] = due;
        }
        return n;
    }

    int keep(int k) {
        if (k < 0 || k > 1) return BAD;
        int was = images[k] == null ? 0 : 1;
        images[k] = core.copy();
        return was;
    }

    int back(int k) {
        if (k < 0 || k > 1) return BAD;
        if (images[k] == null) return STATE;
        core = images[k].copy();
        return core.nodes.size();
    }

    int count(int what) {
        if (what < 0 || what > 1) return BAD;
        return what == 1 ? tape.length() : (images[0] == null ? 0 : 1) + (images[1] == null ? 0 : 1);
    }
}
